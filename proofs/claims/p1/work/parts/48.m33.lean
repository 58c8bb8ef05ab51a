/-! ===== the reference: its public methods, on a fresh object ===== -/
noncomputable def Tr_X4_take : ATr := fun as h K => match as with
  | [.inr (.inl (some a)), .inl s] => ab_so (ab_md h a) fun P => (bareV P.2 ∧ P.2.fnm 0 = 0 ∧ (ab_in s)) ∧ (True → ∀ h' v', ab_md h' a = some (P.1, v') → v'.thr = 1 → ab_kp h h' (mdL a P.1) → K (some (.inl (0))) h')
  | _ => False
theorem mo_X4_take : ab_mo Tr_X4_take := by
  intro as h K K' hk ht
  unfold Tr_X4_take at ht ⊢
  split at ht
  · exact ab_so_mo (fun P q => ⟨q.1, fun e h' v' e1 e2 e3 => hk _ _ (q.2 e h' v' e1 e2 e3)⟩) ht
  · exact ht.elim
def ca_X4_take : Nat → Option ACS := ab_lk [(83, (0, 4, 2, 0, 0, Tr_X4_isSlate)), (58, (0, 4, 2, 0, 0, Tr_X4_fail))]
theorem ca_X4_take_83 : ca_X4_take 83 = some (0, 4, 2, 0, 0, Tr_X4_isSlate) := rfl
theorem ca_X4_take_58 : ca_X4_take 58 = some (0, 4, 2, 0, 0, Tr_X4_fail) := rfl
theorem cm_X4_take : ∀ i q, ca_X4_take i = some q → ab_moq i q := ab_lk_all (ab_all_c mo_X4_isSlate (ab_all_c mo_X4_fail (ab_all_n)))
set_option maxRecDepth 100000 in
set_option maxHeartbeats 4000000 in
theorem sem_X4_take (base : Nat) : ab_Sem tbX4 lw_ts base cX4_take ca_X4_take 1 2 0 0 (fun as => ab_en as 2) Tr_X4_take := by
  intro as h K hT V hV
  unfold Tr_X4_take at hT
  split at hT
  · rename_i a s
    obtain ⟨⟨⟨b0, b1, b2, b3, b4, b5⟩, th, sl, f0, f1, f2, f3, f4, f5⟩, hP, ⟨hb, hs⟩, hK⟩ := ab_so_el hT
    obtain ⟨g0, g1, g2, g3, g4, g5⟩ := id hb
    dsimp only [MV.thr, MV.sl, MV.fst9, MV.fat, MV.frt, MV.ftb, MV.fnm, MV.fmk] at g0 g1 g2 g3 g4 g5 hK hs
    subst g0
    have hm := md_el hP
    obtain ⟨c, c0, c1, c2, c3, c4, c5, -⟩ := id hm
    dsimp only [mdC, MV.thr, MV.sl, MV.fst9, MV.fat, MV.frt, MV.ftb, MV.fnm, MV.fmk] at c c0 c1 c2 c3 c4 c5
    show V 0 [some (.inr (.inl (some a))), some (.inl s)] [] h 0 0
    obtain ⟨g6, hs⟩ := hs
    have hK0 := hK
    have body : ∀ h1, ab_md h1 a = some ((b0, b1, b2, b3, b4, b5), (0, 0, f0, f1, f2, f3, f4, f5)) → ab_fr h h1 (mdL a (b0, b1, b2, b3, b4, b5)) → V 5 [some (.inr (.inl (some a))), some (.inl s)] [] h1 0 0 := by
      intro h1 hP1 fr1
      have hm1 := md_el hP1
      have hb1 : bareV (0, 0, f0, f1, f2, f3, f4, f5) := hb
      obtain ⟨c', c0', c1', c2', c3', c4', c5', -⟩ := id hm1
      dsimp only [mdC, MV.thr, MV.sl, MV.fst9, MV.fat, MV.frt, MV.ftb, MV.fnm, MV.fmk] at c' c0' c1' c2' c3' c4' c5'
      have x1 : True → ∀ h2, ab_md h2 a = some ((b0, b1, b2, b3, b4, b5), (1, 0, f0, f1, f2, f3, f4, f5)) → ab_fr h1 h2 [a] → K (some (.inl 0)) h2 := fun e h2 w1 w2 => hK0 e h2 _ w1 rfl ((ab_kp.of_fr fr1).tr (ab_kp.of_fr (w2.sub (fun b hb => by rw [List.mem_singleton.mp hb]; exact md_inL.1))))
      refine hV (fun p => p == 19) 80 _ _ _ _ _ _ ?_
      simp only [c', hP1, hb1, bI_in, bI_0, bI_1, bI_t, bI_f, bI_01, Tr_X4_isSlate, Tr_X4_fail, ae_aload_n, ae_iconst, ae_ifCond, ae_iload_n, ae_invokevirtual, ae_ireturn, dX4_take_5, dX4_take_6, dX4_take_7, dX4_take_10, dX4_take_13, dX4_take_14, dX4_take_15, dX4_take_18, ca_X4_take_83, ca_X4_take_58, ab_wp0, ab_wps, ab_stp, ab_g, ab_st, ab_k2, ab_cl, ab_pop, ab_sz, ab_2, ab_ret, ab_f4, ab_tg, ab_I, ab_II, ab_A, ab_Rf, ab_VR, ab_IR, ab_VIR, ab_1, ab_LL, ab_DD, ab_ob, ab_pr, ab_qr, ab_ln, ab_so, ab_vI, ab_vA, ab_vD, ab_vL, ab_v2, ab_c, ab_fit, ab_rv, ab_tsw, ab_lsw, ab_up_eq, Fin.isValue, ab_f0, ab_f1, ab_f2, ab_f3, List.getElem?_cons_zero, List.getElem?_cons_succ, List.set_cons_zero, List.set_cons_succ, List.length_cons, List.length_nil, List.size_toArray, List.head?_cons, List.tail_cons, Option.map_some, cond_true, cond_false, true_and, and_true, false_and, and_false, not_true_eq_false, not_false_eq_true, true_imp_iff, false_imp_iff, if_true, if_false, ite_true, ite_false, ↓reduceIte, Nat.reduceAdd, Nat.reduceEqDiff, Nat.reduceLeDiff, Nat.reduceLT, Nat.reduceBEq, Nat.reduceBNe, Int.reduceAdd, Int.reduceNeg, Int.reduceSub, Int.reduceLE, Int.reduceLT, Int.reduceToNat, Int.reduceEq, Int.reduceMul, Int.cast_ofNat_Int, Nat.zero_add, Nat.add_zero, Nat.le_refl, eq_self, ne_eq, reduceCtorEq, or_true, true_or, or_false, false_or, Bool.or_true, Bool.or_false, Bool.true_or, Bool.false_or, Nat.zero_le, Int.le_refl, Int.ofNat_zero, Int.ofNat_one, Bool.false_eq_true]
      try simp only [ab_in] at hs ⊢
      (repeat' (first | intro _ | refine And.intro ?_ ?_)) <;> (first | exact x1 trivial _ (by assumption) (by assumption) | contradiction | omega | (exfalso; omega))
    have hb0 := body _ (md_of (md_thr hm 0)) (ab_fr.rf.up md_inL.1)
    dsimp only [mdC] at hb0
    refine hV (fun p => p == 5) 80 _ _ _ _ _ _ ?_
    simp only [c, ae_aload_n, ae_iconst, ae_putfield, dX4_take_0, dX4_take_1, dX4_take_2, tbX4_p29, ca_X4_take_83, ca_X4_take_58, ab_wp0, ab_wps, ab_stp, ab_g, ab_st, ab_k2, ab_cl, ab_pop, ab_sz, ab_2, ab_ret, ab_f4, ab_tg, ab_I, ab_II, ab_A, ab_Rf, ab_VR, ab_IR, ab_VIR, ab_1, ab_LL, ab_DD, ab_ob, ab_pr, ab_qr, ab_ln, ab_so, ab_vI, ab_vA, ab_vD, ab_vL, ab_v2, ab_c, ab_fit, ab_rv, ab_tsw, ab_lsw, ab_up_eq, Fin.isValue, ab_f0, ab_f1, ab_f2, ab_f3, List.getElem?_cons_zero, List.getElem?_cons_succ, List.set_cons_zero, List.set_cons_succ, List.length_cons, List.length_nil, List.size_toArray, List.head?_cons, List.tail_cons, Option.map_some, cond_true, cond_false, true_and, and_true, false_and, and_false, not_true_eq_false, not_false_eq_true, true_imp_iff, false_imp_iff, if_true, if_false, ite_true, ite_false, ↓reduceIte, Nat.reduceAdd, Nat.reduceEqDiff, Nat.reduceLeDiff, Nat.reduceLT, Nat.reduceBEq, Nat.reduceBNe, Int.reduceAdd, Int.reduceNeg, Int.reduceSub, Int.reduceLE, Int.reduceLT, Int.reduceToNat, Int.reduceEq, Int.reduceMul, Int.cast_ofNat_Int, Nat.zero_add, Nat.add_zero, Nat.le_refl, eq_self, ne_eq, reduceCtorEq, or_true, true_or, or_false, false_or, Bool.or_true, Bool.or_false, Bool.true_or, Bool.false_or, Nat.zero_le, Int.le_refl, Int.ofNat_zero, Int.ofNat_one, Bool.false_eq_true]
    exact hb0
  · exact hT.elim
set_option maxRecDepth 100000 in
theorem con_X4_take (l : Launch) (D : va_G) (ty : Nat → ClassId) (base : Nat) : ab_Con l D vwCl ty lw_ts base lw_wd yX4_take cX4_take 2 (some .int) 2 43 0 0 Tr_X4_take :=
  ab_con_of (own := RX4) (rt := 1) (tb := tbX4) (ini := false) (ca := ca_X4_take) (by decide +kernel) rfl (fun h => by cases h) rfl lw_wd_ok wtbX4 lw_ar cm_X4_take
    (fun p e R s m args below meth c K hcx => by
      obtain ⟨hx, hb, hml, hown, hF, rfl⟩ := hcx
      exact ab_lk_all (ab_all_c (ab_tc_V hx hb hml hown lw_wd_ok hF ⟨rfl, rfl⟩ (con_X4_isSlate l D ty base) rfl (lw_wi (by decide +kernel) (by decide +kernel)) (lw_wi (by decide +kernel) (by decide +kernel)) (lw_wi (by decide +kernel) (by decide +kernel)) (lw_wi (by decide +kernel) (by decide +kernel)) (lw_wi (by decide +kernel) (by decide +kernel)) (by decide +kernel) ⟨by decide, by decide⟩) (ab_all_c (ab_tc_V hx hb hml hown lw_wd_ok hF ⟨rfl, rfl⟩ (con_X4_fail l D ty base) rfl (lw_wi (by decide +kernel) (by decide +kernel)) (lw_wi (by decide +kernel) (by decide +kernel)) (lw_wi (by decide +kernel) (by decide +kernel)) (lw_wi (by decide +kernel) (by decide +kernel)) (lw_wi (by decide +kernel) (by decide +kernel)) (by decide +kernel) ⟨by decide, by decide⟩) (ab_all_n))))
    (by intro as h K ht; unfold Tr_X4_take at ht; split at ht <;> first | exact ht.elim | exact Nat.le_of_ble_eq_true rfl) (sem_X4_take base)
noncomputable def Tr_X4_nail : ATr := fun as h K => match as with
  | [.inr (.inl (some a)), .inl s, .inl nails] => ab_so (ab_md h a) fun P => (bareV P.2 ∧ P.2.fnm 0 = 0 ∧ (ab_in s ∧ ab_in nails)) ∧ (True → ∀ h' v', ab_md h' a = some (P.1, v') → v'.thr = 1 → ab_kp h h' (mdL a P.1) → K (some (.inl (0))) h')
  | _ => False
theorem mo_X4_nail : ab_mo Tr_X4_nail := by
  intro as h K K' hk ht
  unfold Tr_X4_nail at ht ⊢
  split at ht
  · exact ab_so_mo (fun P q => ⟨q.1, fun e h' v' e1 e2 e3 => hk _ _ (q.2 e h' v' e1 e2 e3)⟩) ht
  · exact ht.elim
def ca_X4_nail : Nat → Option ACS := ab_lk [(83, (0, 4, 2, 0, 0, Tr_X4_isSlate)), (58, (0, 4, 2, 0, 0, Tr_X4_fail)), (36, (2, 0, 3, 0, 0, Tr_X4_isIn))]
theorem ca_X4_nail_83 : ca_X4_nail 83 = some (0, 4, 2, 0, 0, Tr_X4_isSlate) := rfl
theorem ca_X4_nail_58 : ca_X4_nail 58 = some (0, 4, 2, 0, 0, Tr_X4_fail) := rfl
theorem ca_X4_nail_36 : ca_X4_nail 36 = some (2, 0, 3, 0, 0, Tr_X4_isIn) := rfl
theorem cm_X4_nail : ∀ i q, ca_X4_nail i = some q → ab_moq i q := ab_lk_all (ab_all_c mo_X4_isSlate (ab_all_c mo_X4_fail (ab_all_c mo_X4_isIn (ab_all_n))))
set_option maxRecDepth 100000 in
set_option maxHeartbeats 4000000 in
theorem sem_X4_nail (base : Nat) : ab_Sem tbX4 lw_ts base cX4_nail ca_X4_nail 1 4 0 0 (fun as => ab_en as 4) Tr_X4_nail := by
  intro as h K hT V hV
  unfold Tr_X4_nail at hT
  split at hT
  · rename_i a s nails
    obtain ⟨⟨⟨b0, b1, b2, b3, b4, b5⟩, th, sl, f0, f1, f2, f3, f4, f5⟩, hP, ⟨hb, hs⟩, hK⟩ := ab_so_el hT
    obtain ⟨g0, g1, g2, g3, g4, g5⟩ := id hb
    dsimp only [MV.thr, MV.sl, MV.fst9, MV.fat, MV.frt, MV.ftb, MV.fnm, MV.fmk] at g0 g1 g2 g3 g4 g5 hK hs
    subst g0
    have hm := md_el hP
    obtain ⟨c, c0, c1, c2, c3, c4, c5, -⟩ := id hm
    dsimp only [mdC, MV.thr, MV.sl, MV.fst9, MV.fat, MV.frt, MV.ftb, MV.fnm, MV.fmk] at c c0 c1 c2 c3 c4 c5
    show V 0 [some (.inr (.inl (some a))), some (.inl s), some (.inl nails), none] [] h 0 0
    obtain ⟨g6, hs⟩ := hs
    have hK0 := hK
    have body : ∀ h1, ab_md h1 a = some ((b0, b1, b2, b3, b4, b5), (0, 0, f0, f1, f2, f3, f4, f5)) → ab_fr h h1 (mdL a (b0, b1, b2, b3, b4, b5)) → V 5 [some (.inr (.inl (some a))), some (.inl s), some (.inl nails), none] [] h1 0 0 := by
      intro h1 hP1 fr1
      have hm1 := md_el hP1
      have hb1 : bareV (0, 0, f0, f1, f2, f3, f4, f5) := hb
      obtain ⟨c', c0', c1', c2', c3', c4', c5', -⟩ := id hm1
      dsimp only [mdC, MV.thr, MV.sl, MV.fst9, MV.fat, MV.frt, MV.ftb, MV.fnm, MV.fmk] at c' c0' c1' c2' c3' c4' c5'
      have x1 : True → ∀ h2, ab_md h2 a = some ((b0, b1, b2, b3, b4, b5), (1, 0, f0, f1, f2, f3, f4, f5)) → ab_fr h1 h2 [a] → K (some (.inl 0)) h2 := fun e h2 w1 w2 => hK0 e h2 _ w1 rfl ((ab_kp.of_fr fr1).tr (ab_kp.of_fr (w2.sub (fun b hb => by rw [List.mem_singleton.mp hb]; exact md_inL.1))))
      refine hV (fun p => p == 19) 80 _ _ _ _ _ _ ?_
      simp only [c', hP1, hb1, bI_in, bI_0, bI_1, bI_t, bI_f, bI_01, Tr_X4_isSlate, Tr_X4_fail, ae_aload_n, ae_iconst, ae_ifCond, ae_iload_n, ae_invokevirtual, ae_ireturn, dX4_nail_5, dX4_nail_6, dX4_nail_7, dX4_nail_10, dX4_nail_13, dX4_nail_14, dX4_nail_15, dX4_nail_18, ca_X4_nail_83, ca_X4_nail_58, ca_X4_nail_36, ab_wp0, ab_wps, ab_stp, ab_g, ab_st, ab_k2, ab_cl, ab_pop, ab_sz, ab_2, ab_ret, ab_f4, ab_tg, ab_I, ab_II, ab_A, ab_Rf, ab_VR, ab_IR, ab_VIR, ab_1, ab_LL, ab_DD, ab_ob, ab_pr, ab_qr, ab_ln, ab_so, ab_vI, ab_vA, ab_vD, ab_vL, ab_v2, ab_c, ab_fit, ab_rv, ab_tsw, ab_lsw, ab_up_eq, Fin.isValue, ab_f0, ab_f1, ab_f2, ab_f3, List.getElem?_cons_zero, List.getElem?_cons_succ, List.set_cons_zero, List.set_cons_succ, List.length_cons, List.length_nil, List.size_toArray, List.head?_cons, List.tail_cons, Option.map_some, cond_true, cond_false, true_and, and_true, false_and, and_false, not_true_eq_false, not_false_eq_true, true_imp_iff, false_imp_iff, if_true, if_false, ite_true, ite_false, ↓reduceIte, Nat.reduceAdd, Nat.reduceEqDiff, Nat.reduceLeDiff, Nat.reduceLT, Nat.reduceBEq, Nat.reduceBNe, Int.reduceAdd, Int.reduceNeg, Int.reduceSub, Int.reduceLE, Int.reduceLT, Int.reduceToNat, Int.reduceEq, Int.reduceMul, Int.cast_ofNat_Int, Nat.zero_add, Nat.add_zero, Nat.le_refl, eq_self, ne_eq, reduceCtorEq, or_true, true_or, or_false, false_or, Bool.or_true, Bool.or_false, Bool.true_or, Bool.false_or, Nat.zero_le, Int.le_refl, Int.ofNat_zero, Int.ofNat_one, Bool.false_eq_true]
      try simp only [ab_in] at hs ⊢
      (repeat' (first | intro _ | refine And.intro ?_ ?_)) <;> (first | exact x1 trivial _ (by assumption) (by assumption) | contradiction | omega | (exfalso; omega))
    have hb0 := body _ (md_of (md_thr hm 0)) (ab_fr.rf.up md_inL.1)
    dsimp only [mdC] at hb0
    refine hV (fun p => p == 5) 80 _ _ _ _ _ _ ?_
    simp only [c, ae_aload_n, ae_iconst, ae_putfield, dX4_nail_0, dX4_nail_1, dX4_nail_2, tbX4_p29, ca_X4_nail_83, ca_X4_nail_58, ca_X4_nail_36, ab_wp0, ab_wps, ab_stp, ab_g, ab_st, ab_k2, ab_cl, ab_pop, ab_sz, ab_2, ab_ret, ab_f4, ab_tg, ab_I, ab_II, ab_A, ab_Rf, ab_VR, ab_IR, ab_VIR, ab_1, ab_LL, ab_DD, ab_ob, ab_pr, ab_qr, ab_ln, ab_so, ab_vI, ab_vA, ab_vD, ab_vL, ab_v2, ab_c, ab_fit, ab_rv, ab_tsw, ab_lsw, ab_up_eq, Fin.isValue, ab_f0, ab_f1, ab_f2, ab_f3, List.getElem?_cons_zero, List.getElem?_cons_succ, List.set_cons_zero, List.set_cons_succ, List.length_cons, List.length_nil, List.size_toArray, List.head?_cons, List.tail_cons, Option.map_some, cond_true, cond_false, true_and, and_true, false_and, and_false, not_true_eq_false, not_false_eq_true, true_imp_iff, false_imp_iff, if_true, if_false, ite_true, ite_false, ↓reduceIte, Nat.reduceAdd, Nat.reduceEqDiff, Nat.reduceLeDiff, Nat.reduceLT, Nat.reduceBEq, Nat.reduceBNe, Int.reduceAdd, Int.reduceNeg, Int.reduceSub, Int.reduceLE, Int.reduceLT, Int.reduceToNat, Int.reduceEq, Int.reduceMul, Int.cast_ofNat_Int, Nat.zero_add, Nat.add_zero, Nat.le_refl, eq_self, ne_eq, reduceCtorEq, or_true, true_or, or_false, false_or, Bool.or_true, Bool.or_false, Bool.true_or, Bool.false_or, Nat.zero_le, Int.le_refl, Int.ofNat_zero, Int.ofNat_one, Bool.false_eq_true]
    exact hb0
  · exact hT.elim
set_option maxRecDepth 100000 in
theorem con_X4_nail (l : Launch) (D : va_G) (ty : Nat → ClassId) (base : Nat) : ab_Con l D vwCl ty lw_ts base lw_wd yX4_nail cX4_nail 4 (some .int) 2 43 0 0 Tr_X4_nail :=
  ab_con_of (own := RX4) (rt := 1) (tb := tbX4) (ini := false) (ca := ca_X4_nail) (by decide +kernel) rfl (fun h => by cases h) rfl lw_wd_ok wtbX4 lw_ar cm_X4_nail
    (fun p e R s m args below meth c K hcx => by
      obtain ⟨hx, hb, hml, hown, hF, rfl⟩ := hcx
      exact ab_lk_all (ab_all_c (ab_tc_V hx hb hml hown lw_wd_ok hF ⟨rfl, rfl⟩ (con_X4_isSlate l D ty base) rfl (lw_wi (by decide +kernel) (by decide +kernel)) (lw_wi (by decide +kernel) (by decide +kernel)) (lw_wi (by decide +kernel) (by decide +kernel)) (lw_wi (by decide +kernel) (by decide +kernel)) (lw_wi (by decide +kernel) (by decide +kernel)) (by decide +kernel) ⟨by decide, by decide⟩) (ab_all_c (ab_tc_V hx hb hml hown lw_wd_ok hF ⟨rfl, rfl⟩ (con_X4_fail l D ty base) rfl (lw_wi (by decide +kernel) (by decide +kernel)) (lw_wi (by decide +kernel) (by decide +kernel)) (lw_wi (by decide +kernel) (by decide +kernel)) (lw_wi (by decide +kernel) (by decide +kernel)) (lw_wi (by decide +kernel) (by decide +kernel)) (by decide +kernel) ⟨by decide, by decide⟩) (ab_all_c (ab_tc_S hx hb hml hown lw_wd_ok hF ⟨rfl, rfl⟩ (con_X4_isIn l D ty base) (lw_wi (by decide +kernel) (by decide +kernel)) (lw_wi (by decide +kernel) (by decide +kernel)) (lw_wi (by decide +kernel) (by decide +kernel)) (lw_wi (by decide +kernel) (by decide +kernel)) (by decide +kernel) ⟨by decide, by decide⟩) (ab_all_n)))))
    (by intro as h K ht; unfold Tr_X4_nail at ht; split at ht <;> first | exact ht.elim | exact Nat.le_of_ble_eq_true rfl) (sem_X4_nail base)
noncomputable def Tr_X4_slate : ATr := fun as h K => match as with
  | [.inr (.inl (some a)), .inl s, .inl what] => ab_so (ab_md h a) fun P => (bareV P.2 ∧ P.2.fnm 0 = 0 ∧ (ab_in s ∧ ab_in what)) ∧ (True → ∀ h' v', ab_md h' a = some (P.1, v') → v'.thr = 1 → ab_kp h h' (mdL a P.1) → K (some (.inl (0))) h')
  | _ => False
theorem mo_X4_slate : ab_mo Tr_X4_slate := by
  intro as h K K' hk ht
  unfold Tr_X4_slate at ht ⊢
  split at ht
  · exact ab_so_mo (fun P q => ⟨q.1, fun e h' v' e1 e2 e3 => hk _ _ (q.2 e h' v' e1 e2 e3)⟩) ht
  · exact ht.elim
def ca_X4_slate : Nat → Option ACS := ab_lk [(83, (0, 4, 2, 0, 0, Tr_X4_isSlate)), (36, (2, 0, 3, 0, 0, Tr_X4_isIn)), (58, (0, 4, 2, 0, 0, Tr_X4_fail))]
theorem ca_X4_slate_83 : ca_X4_slate 83 = some (0, 4, 2, 0, 0, Tr_X4_isSlate) := rfl
theorem ca_X4_slate_36 : ca_X4_slate 36 = some (2, 0, 3, 0, 0, Tr_X4_isIn) := rfl
theorem ca_X4_slate_58 : ca_X4_slate 58 = some (0, 4, 2, 0, 0, Tr_X4_fail) := rfl
theorem cm_X4_slate : ∀ i q, ca_X4_slate i = some q → ab_moq i q := ab_lk_all (ab_all_c mo_X4_isSlate (ab_all_c mo_X4_isIn (ab_all_c mo_X4_fail (ab_all_n))))
set_option maxRecDepth 100000 in
set_option maxHeartbeats 4000000 in
theorem sem_X4_slate (base : Nat) : ab_Sem tbX4 lw_ts base cX4_slate ca_X4_slate 1 3 0 0 (fun as => ab_en as 3) Tr_X4_slate := by
  intro as h K hT V hV
  unfold Tr_X4_slate at hT
  split at hT
  · rename_i a s what
    obtain ⟨⟨⟨b0, b1, b2, b3, b4, b5⟩, th, sl, f0, f1, f2, f3, f4, f5⟩, hP, ⟨hb, hs⟩, hK⟩ := ab_so_el hT
    obtain ⟨g0, g1, g2, g3, g4, g5⟩ := id hb
    dsimp only [MV.thr, MV.sl, MV.fst9, MV.fat, MV.frt, MV.ftb, MV.fnm, MV.fmk] at g0 g1 g2 g3 g4 g5 hK hs
    subst g0
    have hm := md_el hP
    obtain ⟨c, c0, c1, c2, c3, c4, c5, -⟩ := id hm
    dsimp only [mdC, MV.thr, MV.sl, MV.fst9, MV.fat, MV.frt, MV.ftb, MV.fnm, MV.fmk] at c c0 c1 c2 c3 c4 c5
    show V 0 [some (.inr (.inl (some a))), some (.inl s), some (.inl what)] [] h 0 0
    obtain ⟨g6, hs⟩ := hs
    have hK0 := hK
    have body : ∀ h1, ab_md h1 a = some ((b0, b1, b2, b3, b4, b5), (0, 0, f0, f1, f2, f3, f4, f5)) → ab_fr h h1 (mdL a (b0, b1, b2, b3, b4, b5)) → V 5 [some (.inr (.inl (some a))), some (.inl s), some (.inl what)] [] h1 0 0 := by
      intro h1 hP1 fr1
      have hm1 := md_el hP1
      have hb1 : bareV (0, 0, f0, f1, f2, f3, f4, f5) := hb
      obtain ⟨c', c0', c1', c2', c3', c4', c5', -⟩ := id hm1
      dsimp only [mdC, MV.thr, MV.sl, MV.fst9, MV.fat, MV.frt, MV.ftb, MV.fnm, MV.fmk] at c' c0' c1' c2' c3' c4' c5'
      have x1 : True → ∀ h2, ab_md h2 a = some ((b0, b1, b2, b3, b4, b5), (1, 0, f0, f1, f2, f3, f4, f5)) → ab_fr h1 h2 [a] → K (some (.inl 0)) h2 := fun e h2 w1 w2 => hK0 e h2 _ w1 rfl ((ab_kp.of_fr fr1).tr (ab_kp.of_fr (w2.sub (fun b hb => by rw [List.mem_singleton.mp hb]; exact md_inL.1))))
      refine hV (fun p => p == 13) 80 _ _ _ _ _ _ ?_
      simp only [c', hP1, hb1, bI_in, bI_0, bI_1, bI_t, bI_f, bI_01, Tr_X4_isSlate, Tr_X4_fail, ae_aload_n, ae_bipush, ae_goto, ae_iconst, ae_ifCond, ae_iload_n, ae_invokestatic, ae_invokevirtual, ae_ireturn, dX4_slate_5, dX4_slate_6, dX4_slate_7, dX4_slate_10, dX4_slate_13, dX4_slate_14, dX4_slate_15, dX4_slate_17, dX4_slate_20, dX4_slate_23, dX4_slate_24, dX4_slate_25, dX4_slate_26, dX4_slate_29, dX4_slate_32, dX4_slate_33, dX4_slate_34, dX4_slate_37, ca_X4_slate_83, ca_X4_slate_36, ca_X4_slate_58, ab_wp0, ab_wps, ab_stp, ab_g, ab_st, ab_k2, ab_cl, ab_pop, ab_sz, ab_2, ab_ret, ab_f4, ab_tg, ab_I, ab_II, ab_A, ab_Rf, ab_VR, ab_IR, ab_VIR, ab_1, ab_LL, ab_DD, ab_ob, ab_pr, ab_qr, ab_ln, ab_so, ab_vI, ab_vA, ab_vD, ab_vL, ab_v2, ab_c, ab_fit, ab_rv, ab_tsw, ab_lsw, ab_up_eq, Fin.isValue, ab_f0, ab_f1, ab_f2, ab_f3, List.getElem?_cons_zero, List.getElem?_cons_succ, List.set_cons_zero, List.set_cons_succ, List.length_cons, List.length_nil, List.size_toArray, List.head?_cons, List.tail_cons, Option.map_some, cond_true, cond_false, true_and, and_true, false_and, and_false, not_true_eq_false, not_false_eq_true, true_imp_iff, false_imp_iff, if_true, if_false, ite_true, ite_false, ↓reduceIte, Nat.reduceAdd, Nat.reduceEqDiff, Nat.reduceLeDiff, Nat.reduceLT, Nat.reduceBEq, Nat.reduceBNe, Int.reduceAdd, Int.reduceNeg, Int.reduceSub, Int.reduceLE, Int.reduceLT, Int.reduceToNat, Int.reduceEq, Int.reduceMul, Int.cast_ofNat_Int, Nat.zero_add, Nat.add_zero, Nat.le_refl, eq_self, ne_eq, reduceCtorEq, or_true, true_or, or_false, false_or, Bool.or_true, Bool.or_false, Bool.true_or, Bool.false_or, Nat.zero_le, Int.le_refl, Int.ofNat_zero, Int.ofNat_one, Bool.false_eq_true]
      try simp only [ab_in] at hs ⊢
      (repeat' (first | intro _ | refine And.intro ?_ ?_)) <;> (first | exact x1 trivial _ (by assumption) (by assumption) | contradiction | omega | (exfalso; omega))
    have hb0 := body _ (md_of (md_thr hm 0)) (ab_fr.rf.up md_inL.1)
    dsimp only [mdC] at hb0
    refine hV (fun p => p == 5) 80 _ _ _ _ _ _ ?_
    simp only [c, ae_aload_n, ae_iconst, ae_putfield, dX4_slate_0, dX4_slate_1, dX4_slate_2, tbX4_p29, ca_X4_slate_83, ca_X4_slate_36, ca_X4_slate_58, ab_wp0, ab_wps, ab_stp, ab_g, ab_st, ab_k2, ab_cl, ab_pop, ab_sz, ab_2, ab_ret, ab_f4, ab_tg, ab_I, ab_II, ab_A, ab_Rf, ab_VR, ab_IR, ab_VIR, ab_1, ab_LL, ab_DD, ab_ob, ab_pr, ab_qr, ab_ln, ab_so, ab_vI, ab_vA, ab_vD, ab_vL, ab_v2, ab_c, ab_fit, ab_rv, ab_tsw, ab_lsw, ab_up_eq, Fin.isValue, ab_f0, ab_f1, ab_f2, ab_f3, List.getElem?_cons_zero, List.getElem?_cons_succ, List.set_cons_zero, List.set_cons_succ, List.length_cons, List.length_nil, List.size_toArray, List.head?_cons, List.tail_cons, Option.map_some, cond_true, cond_false, true_and, and_true, false_and, and_false, not_true_eq_false, not_false_eq_true, true_imp_iff, false_imp_iff, if_true, if_false, ite_true, ite_false, ↓reduceIte, Nat.reduceAdd, Nat.reduceEqDiff, Nat.reduceLeDiff, Nat.reduceLT, Nat.reduceBEq, Nat.reduceBNe, Int.reduceAdd, Int.reduceNeg, Int.reduceSub, Int.reduceLE, Int.reduceLT, Int.reduceToNat, Int.reduceEq, Int.reduceMul, Int.cast_ofNat_Int, Nat.zero_add, Nat.add_zero, Nat.le_refl, eq_self, ne_eq, reduceCtorEq, or_true, true_or, or_false, false_or, Bool.or_true, Bool.or_false, Bool.true_or, Bool.false_or, Nat.zero_le, Int.le_refl, Int.ofNat_zero, Int.ofNat_one, Bool.false_eq_true]
    exact hb0
  · exact hT.elim
set_option maxRecDepth 100000 in
theorem con_X4_slate (l : Launch) (D : va_G) (ty : Nat → ClassId) (base : Nat) : ab_Con l D vwCl ty lw_ts base lw_wd yX4_slate cX4_slate 3 (some .int) 2 43 0 0 Tr_X4_slate :=
  ab_con_of (own := RX4) (rt := 1) (tb := tbX4) (ini := false) (ca := ca_X4_slate) (by decide +kernel) rfl (fun h => by cases h) rfl lw_wd_ok wtbX4 lw_ar cm_X4_slate
    (fun p e R s m args below meth c K hcx => by
      obtain ⟨hx, hb, hml, hown, hF, rfl⟩ := hcx
      exact ab_lk_all (ab_all_c (ab_tc_V hx hb hml hown lw_wd_ok hF ⟨rfl, rfl⟩ (con_X4_isSlate l D ty base) rfl (lw_wi (by decide +kernel) (by decide +kernel)) (lw_wi (by decide +kernel) (by decide +kernel)) (lw_wi (by decide +kernel) (by decide +kernel)) (lw_wi (by decide +kernel) (by decide +kernel)) (lw_wi (by decide +kernel) (by decide +kernel)) (by decide +kernel) ⟨by decide, by decide⟩) (ab_all_c (ab_tc_S hx hb hml hown lw_wd_ok hF ⟨rfl, rfl⟩ (con_X4_isIn l D ty base) (lw_wi (by decide +kernel) (by decide +kernel)) (lw_wi (by decide +kernel) (by decide +kernel)) (lw_wi (by decide +kernel) (by decide +kernel)) (lw_wi (by decide +kernel) (by decide +kernel)) (by decide +kernel) ⟨by decide, by decide⟩) (ab_all_c (ab_tc_V hx hb hml hown lw_wd_ok hF ⟨rfl, rfl⟩ (con_X4_fail l D ty base) rfl (lw_wi (by decide +kernel) (by decide +kernel)) (lw_wi (by decide +kernel) (by decide +kernel)) (lw_wi (by decide +kernel) (by decide +kernel)) (lw_wi (by decide +kernel) (by decide +kernel)) (lw_wi (by decide +kernel) (by decide +kernel)) (by decide +kernel) ⟨by decide, by decide⟩) (ab_all_n)))))
    (by intro as h K ht; unfold Tr_X4_slate at ht; split at ht <;> first | exact ht.elim | exact Nat.le_of_ble_eq_true rfl) (sem_X4_slate base)
noncomputable def Tr_X4_lift : ATr := fun as h K => match as with
  | [.inr (.inl (some a)), .inl s, .inl force, .inl right] => ab_so (ab_md h a) fun P => (bareV P.2 ∧ P.2.fnm 0 = 0 ∧ (ab_in s ∧ ab_in force ∧ ab_in right)) ∧ (True → ∀ h' v', ab_md h' a = some (P.1, v') → v'.thr = 1 → ab_kp h h' (mdL a P.1) → K (some (.inl (0))) h')
  | _ => False
theorem mo_X4_lift : ab_mo Tr_X4_lift := by
  intro as h K K' hk ht
  unfold Tr_X4_lift at ht ⊢
  split at ht
  · exact ab_so_mo (fun P q => ⟨q.1, fun e h' v' e1 e2 e3 => hk _ _ (q.2 e h' v' e1 e2 e3)⟩) ht
  · exact ht.elim
def ca_X4_lift : Nat → Option ACS := ab_lk [(83, (0, 4, 2, 0, 0, Tr_X4_isSlate)), (58, (0, 4, 2, 0, 0, Tr_X4_fail)), (36, (2, 0, 3, 0, 0, Tr_X4_isIn))]
theorem ca_X4_lift_83 : ca_X4_lift 83 = some (0, 4, 2, 0, 0, Tr_X4_isSlate) := rfl
theorem ca_X4_lift_58 : ca_X4_lift 58 = some (0, 4, 2, 0, 0, Tr_X4_fail) := rfl
theorem ca_X4_lift_36 : ca_X4_lift 36 = some (2, 0, 3, 0, 0, Tr_X4_isIn) := rfl
theorem cm_X4_lift : ∀ i q, ca_X4_lift i = some q → ab_moq i q := ab_lk_all (ab_all_c mo_X4_isSlate (ab_all_c mo_X4_fail (ab_all_c mo_X4_isIn (ab_all_n))))
set_option maxRecDepth 100000 in
set_option maxHeartbeats 4000000 in
theorem sem_X4_lift (base : Nat) : ab_Sem tbX4 lw_ts base cX4_lift ca_X4_lift 1 4 0 0 (fun as => ab_en as 4) Tr_X4_lift := by
  intro as h K hT V hV
  unfold Tr_X4_lift at hT
  split at hT
  · rename_i a s force right
    obtain ⟨⟨⟨b0, b1, b2, b3, b4, b5⟩, th, sl, f0, f1, f2, f3, f4, f5⟩, hP, ⟨hb, hs⟩, hK⟩ := ab_so_el hT
    obtain ⟨g0, g1, g2, g3, g4, g5⟩ := id hb
    dsimp only [MV.thr, MV.sl, MV.fst9, MV.fat, MV.frt, MV.ftb, MV.fnm, MV.fmk] at g0 g1 g2 g3 g4 g5 hK hs
    subst g0
    have hm := md_el hP
    obtain ⟨c, c0, c1, c2, c3, c4, c5, -⟩ := id hm
    dsimp only [mdC, MV.thr, MV.sl, MV.fst9, MV.fat, MV.frt, MV.ftb, MV.fnm, MV.fmk] at c c0 c1 c2 c3 c4 c5
    show V 0 [some (.inr (.inl (some a))), some (.inl s), some (.inl force), some (.inl right)] [] h 0 0
    obtain ⟨g6, hs⟩ := hs
    have hK0 := hK
    have body : ∀ h1, ab_md h1 a = some ((b0, b1, b2, b3, b4, b5), (0, 0, f0, f1, f2, f3, f4, f5)) → ab_fr h h1 (mdL a (b0, b1, b2, b3, b4, b5)) → V 5 [some (.inr (.inl (some a))), some (.inl s), some (.inl force), some (.inl right)] [] h1 0 0 := by
      intro h1 hP1 fr1
      have hm1 := md_el hP1
      have hb1 : bareV (0, 0, f0, f1, f2, f3, f4, f5) := hb
      obtain ⟨c', c0', c1', c2', c3', c4', c5', -⟩ := id hm1
      dsimp only [mdC, MV.thr, MV.sl, MV.fst9, MV.fat, MV.frt, MV.ftb, MV.fnm, MV.fmk] at c' c0' c1' c2' c3' c4' c5'
      have x1 : True → ∀ h2, ab_md h2 a = some ((b0, b1, b2, b3, b4, b5), (1, 0, f0, f1, f2, f3, f4, f5)) → ab_fr h1 h2 [a] → K (some (.inl 0)) h2 := fun e h2 w1 w2 => hK0 e h2 _ w1 rfl ((ab_kp.of_fr fr1).tr (ab_kp.of_fr (w2.sub (fun b hb => by rw [List.mem_singleton.mp hb]; exact md_inL.1))))
      refine hV (fun p => p == 19) 80 _ _ _ _ _ _ ?_
      simp only [c', hP1, hb1, bI_in, bI_0, bI_1, bI_t, bI_f, bI_01, Tr_X4_isSlate, Tr_X4_fail, ae_aload_n, ae_iconst, ae_ifCond, ae_iload_n, ae_invokevirtual, ae_ireturn, dX4_lift_5, dX4_lift_6, dX4_lift_7, dX4_lift_10, dX4_lift_13, dX4_lift_14, dX4_lift_15, dX4_lift_18, ca_X4_lift_83, ca_X4_lift_58, ca_X4_lift_36, ab_wp0, ab_wps, ab_stp, ab_g, ab_st, ab_k2, ab_cl, ab_pop, ab_sz, ab_2, ab_ret, ab_f4, ab_tg, ab_I, ab_II, ab_A, ab_Rf, ab_VR, ab_IR, ab_VIR, ab_1, ab_LL, ab_DD, ab_ob, ab_pr, ab_qr, ab_ln, ab_so, ab_vI, ab_vA, ab_vD, ab_vL, ab_v2, ab_c, ab_fit, ab_rv, ab_tsw, ab_lsw, ab_up_eq, Fin.isValue, ab_f0, ab_f1, ab_f2, ab_f3, List.getElem?_cons_zero, List.getElem?_cons_succ, List.set_cons_zero, List.set_cons_succ, List.length_cons, List.length_nil, List.size_toArray, List.head?_cons, List.tail_cons, Option.map_some, cond_true, cond_false, true_and, and_true, false_and, and_false, not_true_eq_false, not_false_eq_true, true_imp_iff, false_imp_iff, if_true, if_false, ite_true, ite_false, ↓reduceIte, Nat.reduceAdd, Nat.reduceEqDiff, Nat.reduceLeDiff, Nat.reduceLT, Nat.reduceBEq, Nat.reduceBNe, Int.reduceAdd, Int.reduceNeg, Int.reduceSub, Int.reduceLE, Int.reduceLT, Int.reduceToNat, Int.reduceEq, Int.reduceMul, Int.cast_ofNat_Int, Nat.zero_add, Nat.add_zero, Nat.le_refl, eq_self, ne_eq, reduceCtorEq, or_true, true_or, or_false, false_or, Bool.or_true, Bool.or_false, Bool.true_or, Bool.false_or, Nat.zero_le, Int.le_refl, Int.ofNat_zero, Int.ofNat_one, Bool.false_eq_true]
      try simp only [ab_in] at hs ⊢
      (repeat' (first | intro _ | refine And.intro ?_ ?_)) <;> (first | exact x1 trivial _ (by assumption) (by assumption) | contradiction | omega | (exfalso; omega))
    have hb0 := body _ (md_of (md_thr hm 0)) (ab_fr.rf.up md_inL.1)
    dsimp only [mdC] at hb0
    refine hV (fun p => p == 5) 80 _ _ _ _ _ _ ?_
    simp only [c, ae_aload_n, ae_iconst, ae_putfield, dX4_lift_0, dX4_lift_1, dX4_lift_2, tbX4_p29, ca_X4_lift_83, ca_X4_lift_58, ca_X4_lift_36, ab_wp0, ab_wps, ab_stp, ab_g, ab_st, ab_k2, ab_cl, ab_pop, ab_sz, ab_2, ab_ret, ab_f4, ab_tg, ab_I, ab_II, ab_A, ab_Rf, ab_VR, ab_IR, ab_VIR, ab_1, ab_LL, ab_DD, ab_ob, ab_pr, ab_qr, ab_ln, ab_so, ab_vI, ab_vA, ab_vD, ab_vL, ab_v2, ab_c, ab_fit, ab_rv, ab_tsw, ab_lsw, ab_up_eq, Fin.isValue, ab_f0, ab_f1, ab_f2, ab_f3, List.getElem?_cons_zero, List.getElem?_cons_succ, List.set_cons_zero, List.set_cons_succ, List.length_cons, List.length_nil, List.size_toArray, List.head?_cons, List.tail_cons, Option.map_some, cond_true, cond_false, true_and, and_true, false_and, and_false, not_true_eq_false, not_false_eq_true, true_imp_iff, false_imp_iff, if_true, if_false, ite_true, ite_false, ↓reduceIte, Nat.reduceAdd, Nat.reduceEqDiff, Nat.reduceLeDiff, Nat.reduceLT, Nat.reduceBEq, Nat.reduceBNe, Int.reduceAdd, Int.reduceNeg, Int.reduceSub, Int.reduceLE, Int.reduceLT, Int.reduceToNat, Int.reduceEq, Int.reduceMul, Int.cast_ofNat_Int, Nat.zero_add, Nat.add_zero, Nat.le_refl, eq_self, ne_eq, reduceCtorEq, or_true, true_or, or_false, false_or, Bool.or_true, Bool.or_false, Bool.true_or, Bool.false_or, Nat.zero_le, Int.le_refl, Int.ofNat_zero, Int.ofNat_one, Bool.false_eq_true]
    exact hb0
  · exact hT.elim
set_option maxRecDepth 100000 in
theorem con_X4_lift (l : Launch) (D : va_G) (ty : Nat → ClassId) (base : Nat) : ab_Con l D vwCl ty lw_ts base lw_wd yX4_lift cX4_lift 4 (some .int) 2 43 0 0 Tr_X4_lift :=
  ab_con_of (own := RX4) (rt := 1) (tb := tbX4) (ini := false) (ca := ca_X4_lift) (by decide +kernel) rfl (fun h => by cases h) rfl lw_wd_ok wtbX4 lw_ar cm_X4_lift
    (fun p e R s m args below meth c K hcx => by
      obtain ⟨hx, hb, hml, hown, hF, rfl⟩ := hcx
      exact ab_lk_all (ab_all_c (ab_tc_V hx hb hml hown lw_wd_ok hF ⟨rfl, rfl⟩ (con_X4_isSlate l D ty base) rfl (lw_wi (by decide +kernel) (by decide +kernel)) (lw_wi (by decide +kernel) (by decide +kernel)) (lw_wi (by decide +kernel) (by decide +kernel)) (lw_wi (by decide +kernel) (by decide +kernel)) (lw_wi (by decide +kernel) (by decide +kernel)) (by decide +kernel) ⟨by decide, by decide⟩) (ab_all_c (ab_tc_V hx hb hml hown lw_wd_ok hF ⟨rfl, rfl⟩ (con_X4_fail l D ty base) rfl (lw_wi (by decide +kernel) (by decide +kernel)) (lw_wi (by decide +kernel) (by decide +kernel)) (lw_wi (by decide +kernel) (by decide +kernel)) (lw_wi (by decide +kernel) (by decide +kernel)) (lw_wi (by decide +kernel) (by decide +kernel)) (by decide +kernel) ⟨by decide, by decide⟩) (ab_all_c (ab_tc_S hx hb hml hown lw_wd_ok hF ⟨rfl, rfl⟩ (con_X4_isIn l D ty base) (lw_wi (by decide +kernel) (by decide +kernel)) (lw_wi (by decide +kernel) (by decide +kernel)) (lw_wi (by decide +kernel) (by decide +kernel)) (lw_wi (by decide +kernel) (by decide +kernel)) (by decide +kernel) ⟨by decide, by decide⟩) (ab_all_n)))))
    (by intro as h K ht; unfold Tr_X4_lift at ht; split at ht <;> first | exact ht.elim | exact Nat.le_of_ble_eq_true rfl) (sem_X4_lift base)
noncomputable def Tr_X4_place : ATr := fun as h K => match as with
  | [.inr (.inl (some a)), .inl x, .inl y, .inl what] => ab_so (ab_md h a) fun P => (bareV P.2 ∧ P.2.fnm 0 = 0 ∧ (ab_in x ∧ ab_in y ∧ ab_in what)) ∧ (isPlaceF x y = true ∧ isUpToF what 2 = true → ∀ h' v', ab_md h' a = some (P.1, v') → v'.thr = 0 → ab_kp h h' (mdL a P.1) → K (some (.inl (if what = 0 then -1 else 0))) h') ∧ (isPlaceF x y = false ∨ isUpToF what 2 = false → ∀ h' v', ab_md h' a = some (P.1, v') → v'.thr = 1 → ab_kp h h' (mdL a P.1) → K (some (.inl (0))) h')
  | _ => False
theorem mo_X4_place : ab_mo Tr_X4_place := by
  intro as h K K' hk ht
  unfold Tr_X4_place at ht ⊢
  split at ht
  · exact ab_so_mo (fun P q => ⟨q.1, fun e h' v' e1 e2 e3 => hk _ _ (q.2.1 e h' v' e1 e2 e3), fun e h' v' e1 e2 e3 => hk _ _ (q.2.2 e h' v' e1 e2 e3)⟩) ht
  · exact ht.elim
def ca_X4_place : Nat → Option ACS := ab_lk [(44, (2, 0, 2, 0, 0, Tr_X4_isPlace)), (36, (2, 0, 3, 0, 0, Tr_X4_isIn)), (112, (0, 4, 4, 0, 0, Tr_X4_placeTold)), (58, (0, 4, 2, 0, 0, Tr_X4_fail))]
theorem ca_X4_place_44 : ca_X4_place 44 = some (2, 0, 2, 0, 0, Tr_X4_isPlace) := rfl
theorem ca_X4_place_36 : ca_X4_place 36 = some (2, 0, 3, 0, 0, Tr_X4_isIn) := rfl
theorem ca_X4_place_112 : ca_X4_place 112 = some (0, 4, 4, 0, 0, Tr_X4_placeTold) := rfl
theorem ca_X4_place_58 : ca_X4_place 58 = some (0, 4, 2, 0, 0, Tr_X4_fail) := rfl
theorem cm_X4_place : ∀ i q, ca_X4_place i = some q → ab_moq i q := ab_lk_all (ab_all_c mo_X4_isPlace (ab_all_c mo_X4_isIn (ab_all_c mo_X4_placeTold (ab_all_c mo_X4_fail (ab_all_n)))))
set_option maxRecDepth 100000 in
set_option maxHeartbeats 4000000 in
theorem sem_X4_place (base : Nat) : ab_Sem tbX4 lw_ts base cX4_place ca_X4_place 1 4 0 0 (fun as => ab_en as 4) Tr_X4_place := by
  intro as h K hT V hV
  unfold Tr_X4_place at hT
  split at hT
  · rename_i a x y what
    obtain ⟨⟨⟨b0, b1, b2, b3, b4, b5⟩, th, sl, f0, f1, f2, f3, f4, f5⟩, hP, ⟨hb, hs⟩, hK⟩ := ab_so_el hT
    obtain ⟨g0, g1, g2, g3, g4, g5⟩ := id hb
    dsimp only [MV.thr, MV.sl, MV.fst9, MV.fat, MV.frt, MV.ftb, MV.fnm, MV.fmk] at g0 g1 g2 g3 g4 g5 hK hs
    subst g0
    have hm := md_el hP
    obtain ⟨c, c0, c1, c2, c3, c4, c5, -⟩ := id hm
    dsimp only [mdC, MV.thr, MV.sl, MV.fst9, MV.fat, MV.frt, MV.ftb, MV.fnm, MV.fmk] at c c0 c1 c2 c3 c4 c5
    show V 0 [some (.inr (.inl (some a))), some (.inl x), some (.inl y), some (.inl what)] [] h 0 0
    obtain ⟨g6, hs⟩ := hs
    obtain ⟨hK0, hK1⟩ := hK
    have body : ∀ h1, ab_md h1 a = some ((b0, b1, b2, b3, b4, b5), (0, 0, f0, f1, f2, f3, f4, f5)) → ab_fr h h1 (mdL a (b0, b1, b2, b3, b4, b5)) → V 5 [some (.inr (.inl (some a))), some (.inl x), some (.inl y), some (.inl what)] [] h1 0 0 := by
      intro h1 hP1 fr1
      have hm1 := md_el hP1
      have hb1 : bareV (0, 0, f0, f1, f2, f3, f4, f5) := hb
      obtain ⟨c', c0', c1', c2', c3', c4', c5', -⟩ := id hm1
      dsimp only [mdC, MV.thr, MV.sl, MV.fst9, MV.fat, MV.frt, MV.ftb, MV.fnm, MV.fmk] at c' c0' c1' c2' c3' c4' c5'
      have y0 : isPlaceF x y = true ∧ isUpToF what 2 = true → K (some (.inl (if what = 0 then -1 else 0))) h1 := fun e => hK0 e h1 _ hP1 rfl (ab_kp.of_fr fr1)
      have x1 : isPlaceF x y = false ∨ isUpToF what 2 = false → ∀ h2, ab_md h2 a = some ((b0, b1, b2, b3, b4, b5), (1, 0, f0, f1, f2, f3, f4, f5)) → ab_fr h1 h2 [a] → K (some (.inl 0)) h2 := fun e h2 w1 w2 => hK1 e h2 _ w1 rfl ((ab_kp.of_fr fr1).tr (ab_kp.of_fr (w2.sub (fun b hb => by rw [List.mem_singleton.mp hb]; exact md_inL.1))))
      cases hp : isPlaceF x y
      · refine hV (fun p => p == 13) 80 _ _ _ _ _ _ ?_
        simp only [c', hP1, hb1, hp, bI_in, bI_0, bI_1, bI_t, bI_f, bI_01, Tr_X4_isPlace, Tr_X4_fail, ae_aload_n, ae_goto, ae_iconst, ae_ifCond, ae_iload_n, ae_invokestatic, ae_invokevirtual, ae_ireturn, dX4_place_5, dX4_place_6, dX4_place_7, dX4_place_10, dX4_place_13, dX4_place_14, dX4_place_15, dX4_place_16, dX4_place_19, dX4_place_22, dX4_place_23, dX4_place_24, dX4_place_25, dX4_place_26, dX4_place_29, dX4_place_32, dX4_place_33, dX4_place_34, dX4_place_37, ca_X4_place_44, ca_X4_place_36, ca_X4_place_112, ca_X4_place_58, ab_wp0, ab_wps, ab_stp, ab_g, ab_st, ab_k2, ab_cl, ab_pop, ab_sz, ab_2, ab_ret, ab_f4, ab_tg, ab_I, ab_II, ab_A, ab_Rf, ab_VR, ab_IR, ab_VIR, ab_1, ab_LL, ab_DD, ab_ob, ab_pr, ab_qr, ab_ln, ab_so, ab_vI, ab_vA, ab_vD, ab_vL, ab_v2, ab_c, ab_fit, ab_rv, ab_tsw, ab_lsw, ab_up_eq, Fin.isValue, ab_f0, ab_f1, ab_f2, ab_f3, List.getElem?_cons_zero, List.getElem?_cons_succ, List.set_cons_zero, List.set_cons_succ, List.length_cons, List.length_nil, List.size_toArray, List.head?_cons, List.tail_cons, Option.map_some, cond_true, cond_false, true_and, and_true, false_and, and_false, not_true_eq_false, not_false_eq_true, true_imp_iff, false_imp_iff, if_true, if_false, ite_true, ite_false, ↓reduceIte, Nat.reduceAdd, Nat.reduceEqDiff, Nat.reduceLeDiff, Nat.reduceLT, Nat.reduceBEq, Nat.reduceBNe, Int.reduceAdd, Int.reduceNeg, Int.reduceSub, Int.reduceLE, Int.reduceLT, Int.reduceToNat, Int.reduceEq, Int.reduceMul, Int.cast_ofNat_Int, Nat.zero_add, Nat.add_zero, Nat.le_refl, eq_self, ne_eq, reduceCtorEq, or_true, true_or, or_false, false_or, Bool.or_true, Bool.or_false, Bool.true_or, Bool.false_or, Nat.zero_le, Int.le_refl, Int.ofNat_zero, Int.ofNat_one, Bool.false_eq_true]
        try simp only [ab_in] at hs ⊢
        (repeat' (first | intro _ | refine And.intro ?_ ?_)) <;> (first | exact x1 (Or.inl hp) _ (by assumption) (by assumption) | contradiction | omega | (exfalso; omega))
      · cases hu : isUpToF what 2
        · have hu2 : decide (0 ≤ what ∧ what ≤ 2) = false := hu
          refine hV (fun p => p == 22) 80 _ _ _ _ _ _ ?_
          simp only [c', hP1, hb1, hp, hu2, bI_in, bI_0, bI_1, bI_t, bI_f, bI_01, Tr_X4_isPlace, Tr_X4_isIn, Tr_X4_fail, ae_aload_n, ae_goto, ae_iconst, ae_ifCond, ae_iload_n, ae_invokestatic, ae_invokevirtual, ae_ireturn, dX4_place_5, dX4_place_6, dX4_place_7, dX4_place_10, dX4_place_13, dX4_place_14, dX4_place_15, dX4_place_16, dX4_place_19, dX4_place_22, dX4_place_23, dX4_place_24, dX4_place_25, dX4_place_26, dX4_place_29, dX4_place_32, dX4_place_33, dX4_place_34, dX4_place_37, ca_X4_place_44, ca_X4_place_36, ca_X4_place_112, ca_X4_place_58, ab_wp0, ab_wps, ab_stp, ab_g, ab_st, ab_k2, ab_cl, ab_pop, ab_sz, ab_2, ab_ret, ab_f4, ab_tg, ab_I, ab_II, ab_A, ab_Rf, ab_VR, ab_IR, ab_VIR, ab_1, ab_LL, ab_DD, ab_ob, ab_pr, ab_qr, ab_ln, ab_so, ab_vI, ab_vA, ab_vD, ab_vL, ab_v2, ab_c, ab_fit, ab_rv, ab_tsw, ab_lsw, ab_up_eq, Fin.isValue, ab_f0, ab_f1, ab_f2, ab_f3, List.getElem?_cons_zero, List.getElem?_cons_succ, List.set_cons_zero, List.set_cons_succ, List.length_cons, List.length_nil, List.size_toArray, List.head?_cons, List.tail_cons, Option.map_some, cond_true, cond_false, true_and, and_true, false_and, and_false, not_true_eq_false, not_false_eq_true, true_imp_iff, false_imp_iff, if_true, if_false, ite_true, ite_false, ↓reduceIte, Nat.reduceAdd, Nat.reduceEqDiff, Nat.reduceLeDiff, Nat.reduceLT, Nat.reduceBEq, Nat.reduceBNe, Int.reduceAdd, Int.reduceNeg, Int.reduceSub, Int.reduceLE, Int.reduceLT, Int.reduceToNat, Int.reduceEq, Int.reduceMul, Int.cast_ofNat_Int, Nat.zero_add, Nat.add_zero, Nat.le_refl, eq_self, ne_eq, reduceCtorEq, or_true, true_or, or_false, false_or, Bool.or_true, Bool.or_false, Bool.true_or, Bool.false_or, Nat.zero_le, Int.le_refl, Int.ofNat_zero, Int.ofNat_one, Bool.false_eq_true]
          try simp only [ab_in] at hs ⊢
          (repeat' (first | intro _ | refine And.intro ?_ ?_)) <;> (first | exact x1 (Or.inr hu) _ (by assumption) (by assumption) | contradiction | omega | (exfalso; omega))
        · have hu2 : decide (0 ≤ what ∧ what ≤ 2) = true := hu
          have hu3 : 0 ≤ what ∧ what ≤ 2 := of_decide_eq_true hu
          have hp3 : 0 ≤ x ∧ x < 12 ∧ 0 ≤ y ∧ y < 8 := of_decide_eq_true hp
          have yy := y0 ⟨hp, hu⟩
          refine hV (fun p => p == 32) 80 _ _ _ _ _ _ ?_
          simp only [c', hP1, hb1, hp, hu2, bI_in, bI_0, bI_1, bI_t, bI_f, bI_01, Tr_X4_isPlace, Tr_X4_isIn, Tr_X4_placeTold, ae_aload_n, ae_goto, ae_iconst, ae_ifCond, ae_iload_n, ae_invokestatic, ae_invokevirtual, ae_ireturn, dX4_place_5, dX4_place_6, dX4_place_7, dX4_place_10, dX4_place_13, dX4_place_14, dX4_place_15, dX4_place_16, dX4_place_19, dX4_place_22, dX4_place_23, dX4_place_24, dX4_place_25, dX4_place_26, dX4_place_29, dX4_place_32, dX4_place_33, dX4_place_34, dX4_place_37, ca_X4_place_44, ca_X4_place_36, ca_X4_place_112, ca_X4_place_58, ab_wp0, ab_wps, ab_stp, ab_g, ab_st, ab_k2, ab_cl, ab_pop, ab_sz, ab_2, ab_ret, ab_f4, ab_tg, ab_I, ab_II, ab_A, ab_Rf, ab_VR, ab_IR, ab_VIR, ab_1, ab_LL, ab_DD, ab_ob, ab_pr, ab_qr, ab_ln, ab_so, ab_vI, ab_vA, ab_vD, ab_vL, ab_v2, ab_c, ab_fit, ab_rv, ab_tsw, ab_lsw, ab_up_eq, Fin.isValue, ab_f0, ab_f1, ab_f2, ab_f3, List.getElem?_cons_zero, List.getElem?_cons_succ, List.set_cons_zero, List.set_cons_succ, List.length_cons, List.length_nil, List.size_toArray, List.head?_cons, List.tail_cons, Option.map_some, cond_true, cond_false, true_and, and_true, false_and, and_false, not_true_eq_false, not_false_eq_true, true_imp_iff, false_imp_iff, if_true, if_false, ite_true, ite_false, ↓reduceIte, Nat.reduceAdd, Nat.reduceEqDiff, Nat.reduceLeDiff, Nat.reduceLT, Nat.reduceBEq, Nat.reduceBNe, Int.reduceAdd, Int.reduceNeg, Int.reduceSub, Int.reduceLE, Int.reduceLT, Int.reduceToNat, Int.reduceEq, Int.reduceMul, Int.cast_ofNat_Int, Nat.zero_add, Nat.add_zero, Nat.le_refl, eq_self, ne_eq, reduceCtorEq, or_true, true_or, or_false, false_or, Bool.or_true, Bool.or_false, Bool.true_or, Bool.false_or, Nat.zero_le, Int.le_refl, Int.ofNat_zero, Int.ofNat_one, Bool.false_eq_true]
          try simp only [ab_in] at hs ⊢
          (repeat' (first | intro _ | refine And.intro ?_ ?_)) <;> (first | exact yy | contradiction | omega | (exfalso; omega))
    have hb0 := body _ (md_of (md_thr hm 0)) (ab_fr.rf.up md_inL.1)
    dsimp only [mdC] at hb0
    refine hV (fun p => p == 5) 80 _ _ _ _ _ _ ?_
    simp only [c, ae_aload_n, ae_iconst, ae_putfield, dX4_place_0, dX4_place_1, dX4_place_2, tbX4_p29, ca_X4_place_44, ca_X4_place_36, ca_X4_place_112, ca_X4_place_58, ab_wp0, ab_wps, ab_stp, ab_g, ab_st, ab_k2, ab_cl, ab_pop, ab_sz, ab_2, ab_ret, ab_f4, ab_tg, ab_I, ab_II, ab_A, ab_Rf, ab_VR, ab_IR, ab_VIR, ab_1, ab_LL, ab_DD, ab_ob, ab_pr, ab_qr, ab_ln, ab_so, ab_vI, ab_vA, ab_vD, ab_vL, ab_v2, ab_c, ab_fit, ab_rv, ab_tsw, ab_lsw, ab_up_eq, Fin.isValue, ab_f0, ab_f1, ab_f2, ab_f3, List.getElem?_cons_zero, List.getElem?_cons_succ, List.set_cons_zero, List.set_cons_succ, List.length_cons, List.length_nil, List.size_toArray, List.head?_cons, List.tail_cons, Option.map_some, cond_true, cond_false, true_and, and_true, false_and, and_false, not_true_eq_false, not_false_eq_true, true_imp_iff, false_imp_iff, if_true, if_false, ite_true, ite_false, ↓reduceIte, Nat.reduceAdd, Nat.reduceEqDiff, Nat.reduceLeDiff, Nat.reduceLT, Nat.reduceBEq, Nat.reduceBNe, Int.reduceAdd, Int.reduceNeg, Int.reduceSub, Int.reduceLE, Int.reduceLT, Int.reduceToNat, Int.reduceEq, Int.reduceMul, Int.cast_ofNat_Int, Nat.zero_add, Nat.add_zero, Nat.le_refl, eq_self, ne_eq, reduceCtorEq, or_true, true_or, or_false, false_or, Bool.or_true, Bool.or_false, Bool.true_or, Bool.false_or, Nat.zero_le, Int.le_refl, Int.ofNat_zero, Int.ofNat_one, Bool.false_eq_true]
    exact hb0
  · exact hT.elim
set_option maxRecDepth 100000 in
theorem con_X4_place (l : Launch) (D : va_G) (ty : Nat → ClassId) (base : Nat) : ab_Con l D vwCl ty lw_ts base lw_wd yX4_place cX4_place 4 (some .int) 6 132 0 0 Tr_X4_place :=
  ab_con_of (own := RX4) (rt := 1) (tb := tbX4) (ini := false) (ca := ca_X4_place) (by decide +kernel) rfl (fun h => by cases h) rfl lw_wd_ok wtbX4 lw_ar cm_X4_place
    (fun p e R s m args below meth c K hcx => by
      obtain ⟨hx, hb, hml, hown, hF, rfl⟩ := hcx
      exact ab_lk_all (ab_all_c (ab_tc_S hx hb hml hown lw_wd_ok hF ⟨rfl, rfl⟩ (con_X4_isPlace l D ty base) (lw_wi (by decide +kernel) (by decide +kernel)) (lw_wi (by decide +kernel) (by decide +kernel)) (lw_wi (by decide +kernel) (by decide +kernel)) (lw_wi (by decide +kernel) (by decide +kernel)) (by decide +kernel) ⟨by decide, by decide⟩) (ab_all_c (ab_tc_S hx hb hml hown lw_wd_ok hF ⟨rfl, rfl⟩ (con_X4_isIn l D ty base) (lw_wi (by decide +kernel) (by decide +kernel)) (lw_wi (by decide +kernel) (by decide +kernel)) (lw_wi (by decide +kernel) (by decide +kernel)) (lw_wi (by decide +kernel) (by decide +kernel)) (by decide +kernel) ⟨by decide, by decide⟩) (ab_all_c (ab_tc_V hx hb hml hown lw_wd_ok hF ⟨rfl, rfl⟩ (con_X4_placeTold l D ty base) rfl (lw_wi (by decide +kernel) (by decide +kernel)) (lw_wi (by decide +kernel) (by decide +kernel)) (lw_wi (by decide +kernel) (by decide +kernel)) (lw_wi (by decide +kernel) (by decide +kernel)) (lw_wi (by decide +kernel) (by decide +kernel)) (by decide +kernel) ⟨by decide, by decide⟩) (ab_all_c (ab_tc_V hx hb hml hown lw_wd_ok hF ⟨rfl, rfl⟩ (con_X4_fail l D ty base) rfl (lw_wi (by decide +kernel) (by decide +kernel)) (lw_wi (by decide +kernel) (by decide +kernel)) (lw_wi (by decide +kernel) (by decide +kernel)) (lw_wi (by decide +kernel) (by decide +kernel)) (lw_wi (by decide +kernel) (by decide +kernel)) (by decide +kernel) ⟨by decide, by decide⟩) (ab_all_n))))))
    (by intro as h K ht; unfold Tr_X4_place at ht; split at ht <;> first | exact ht.elim | exact Nat.le_of_ble_eq_true rfl) (sem_X4_place base)
noncomputable def Tr_X4_count : ATr := fun as h K => match as with
  | [.inr (.inl (some a)), .inl what] => ab_so (ab_md h a) fun P => (bareV P.2 ∧ P.2.fnm 0 = 0 ∧ (ab_in what)) ∧ (isUpToF what 6 = true → ∀ h' v', ab_md h' a = some (P.1, v') → v'.thr = 0 → ab_kp h h' (mdL a P.1) → K (some (.inl (0))) h') ∧ (isUpToF what 6 = false → ∀ h' v', ab_md h' a = some (P.1, v') → v'.thr = 1 → ab_kp h h' (mdL a P.1) → K (some (.inl (0))) h')
  | _ => False
theorem mo_X4_count : ab_mo Tr_X4_count := by
  intro as h K K' hk ht
  unfold Tr_X4_count at ht ⊢
  split at ht
  · exact ab_so_mo (fun P q => ⟨q.1, fun e h' v' e1 e2 e3 => hk _ _ (q.2.1 e h' v' e1 e2 e3), fun e h' v' e1 e2 e3 => hk _ _ (q.2.2 e h' v' e1 e2 e3)⟩) ht
  · exact ht.elim
def ca_X4_count : Nat → Option ACS := ab_lk [(36, (2, 0, 3, 0, 0, Tr_X4_isIn)), (124, (0, 4, 2, 0, 0, Tr_X4_counted)), (58, (0, 4, 2, 0, 0, Tr_X4_fail))]
theorem ca_X4_count_36 : ca_X4_count 36 = some (2, 0, 3, 0, 0, Tr_X4_isIn) := rfl
theorem ca_X4_count_124 : ca_X4_count 124 = some (0, 4, 2, 0, 0, Tr_X4_counted) := rfl
theorem ca_X4_count_58 : ca_X4_count 58 = some (0, 4, 2, 0, 0, Tr_X4_fail) := rfl
theorem cm_X4_count : ∀ i q, ca_X4_count i = some q → ab_moq i q := ab_lk_all (ab_all_c mo_X4_isIn (ab_all_c mo_X4_counted (ab_all_c mo_X4_fail (ab_all_n))))
set_option maxRecDepth 100000 in
set_option maxHeartbeats 4000000 in
theorem sem_X4_count (base : Nat) : ab_Sem tbX4 lw_ts base cX4_count ca_X4_count 1 2 0 0 (fun as => ab_en as 2) Tr_X4_count := by
  intro as h K hT V hV
  unfold Tr_X4_count at hT
  split at hT
  · rename_i a what
    obtain ⟨⟨⟨b0, b1, b2, b3, b4, b5⟩, th, sl, f0, f1, f2, f3, f4, f5⟩, hP, ⟨hb, hs⟩, hK⟩ := ab_so_el hT
    obtain ⟨g0, g1, g2, g3, g4, g5⟩ := id hb
    dsimp only [MV.thr, MV.sl, MV.fst9, MV.fat, MV.frt, MV.ftb, MV.fnm, MV.fmk] at g0 g1 g2 g3 g4 g5 hK hs
    subst g0
    have hm := md_el hP
    obtain ⟨c, c0, c1, c2, c3, c4, c5, -⟩ := id hm
    dsimp only [mdC, MV.thr, MV.sl, MV.fst9, MV.fat, MV.frt, MV.ftb, MV.fnm, MV.fmk] at c c0 c1 c2 c3 c4 c5
    show V 0 [some (.inr (.inl (some a))), some (.inl what)] [] h 0 0
    obtain ⟨g6, hs⟩ := hs
    obtain ⟨hK0, hK1⟩ := hK
    have body : ∀ h1, ab_md h1 a = some ((b0, b1, b2, b3, b4, b5), (0, 0, f0, f1, f2, f3, f4, f5)) → ab_fr h h1 (mdL a (b0, b1, b2, b3, b4, b5)) → V 5 [some (.inr (.inl (some a))), some (.inl what)] [] h1 0 0 := by
      intro h1 hP1 fr1
      have hm1 := md_el hP1
      have hb1 : bareV (0, 0, f0, f1, f2, f3, f4, f5) := hb
      obtain ⟨c', c0', c1', c2', c3', c4', c5', -⟩ := id hm1
      dsimp only [mdC, MV.thr, MV.sl, MV.fst9, MV.fat, MV.frt, MV.ftb, MV.fnm, MV.fmk] at c' c0' c1' c2' c3' c4' c5'
      have y0 : isUpToF what 6 = true → K (some (.inl (0))) h1 := fun e => hK0 e h1 _ hP1 rfl (ab_kp.of_fr fr1)
      have x1 : isUpToF what 6 = false → ∀ h2, ab_md h2 a = some ((b0, b1, b2, b3, b4, b5), (1, 0, f0, f1, f2, f3, f4, f5)) → ab_fr h1 h2 [a] → K (some (.inl 0)) h2 := fun e h2 w1 w2 => hK1 e h2 _ w1 rfl ((ab_kp.of_fr fr1).tr (ab_kp.of_fr (w2.sub (fun b hb => by rw [List.mem_singleton.mp hb]; exact md_inL.1))))
      cases hu : isUpToF what 6
      · have hu2 : decide (0 ≤ what ∧ what ≤ 6) = false := hu
        refine hV (fun p => p == 15) 80 _ _ _ _ _ _ ?_
        simp only [c', hP1, hb1, hu2, bI_in, bI_0, bI_1, bI_t, bI_f, bI_01, Tr_X4_isIn, Tr_X4_fail, ae_aload_n, ae_bipush, ae_goto, ae_iconst, ae_ifCond, ae_iload_n, ae_invokestatic, ae_invokevirtual, ae_ireturn, dX4_count_5, dX4_count_6, dX4_count_7, dX4_count_9, dX4_count_12, dX4_count_15, dX4_count_16, dX4_count_17, dX4_count_20, dX4_count_23, dX4_count_24, dX4_count_25, dX4_count_28, ca_X4_count_36, ca_X4_count_124, ca_X4_count_58, ab_wp0, ab_wps, ab_stp, ab_g, ab_st, ab_k2, ab_cl, ab_pop, ab_sz, ab_2, ab_ret, ab_f4, ab_tg, ab_I, ab_II, ab_A, ab_Rf, ab_VR, ab_IR, ab_VIR, ab_1, ab_LL, ab_DD, ab_ob, ab_pr, ab_qr, ab_ln, ab_so, ab_vI, ab_vA, ab_vD, ab_vL, ab_v2, ab_c, ab_fit, ab_rv, ab_tsw, ab_lsw, ab_up_eq, Fin.isValue, ab_f0, ab_f1, ab_f2, ab_f3, List.getElem?_cons_zero, List.getElem?_cons_succ, List.set_cons_zero, List.set_cons_succ, List.length_cons, List.length_nil, List.size_toArray, List.head?_cons, List.tail_cons, Option.map_some, cond_true, cond_false, true_and, and_true, false_and, and_false, not_true_eq_false, not_false_eq_true, true_imp_iff, false_imp_iff, if_true, if_false, ite_true, ite_false, ↓reduceIte, Nat.reduceAdd, Nat.reduceEqDiff, Nat.reduceLeDiff, Nat.reduceLT, Nat.reduceBEq, Nat.reduceBNe, Int.reduceAdd, Int.reduceNeg, Int.reduceSub, Int.reduceLE, Int.reduceLT, Int.reduceToNat, Int.reduceEq, Int.reduceMul, Int.cast_ofNat_Int, Nat.zero_add, Nat.add_zero, Nat.le_refl, eq_self, ne_eq, reduceCtorEq, or_true, true_or, or_false, false_or, Bool.or_true, Bool.or_false, Bool.true_or, Bool.false_or, Nat.zero_le, Int.le_refl, Int.ofNat_zero, Int.ofNat_one, Bool.false_eq_true]
        try simp only [ab_in] at hs ⊢
        (repeat' (first | intro _ | refine And.intro ?_ ?_)) <;> (first | exact x1 hu _ (by assumption) (by assumption) | contradiction | omega | (exfalso; omega))
      · have hu2 : decide (0 ≤ what ∧ what ≤ 6) = true := hu
        have hu3 : 0 ≤ what ∧ what ≤ 6 := of_decide_eq_true hu
        have yy := y0 hu
        have e9 : (if what = 0 then f4 0 else 0) = (0 : Int) := by split; exact g6; rfl
        refine hV (fun p => p == 23) 80 _ _ _ _ _ _ ?_
        simp only [c', hP1, hb1, hu2, e9, bI_in, bI_0, bI_1, bI_t, bI_f, bI_01, Tr_X4_isIn, Tr_X4_counted, ae_aload_n, ae_bipush, ae_goto, ae_iconst, ae_ifCond, ae_iload_n, ae_invokestatic, ae_invokevirtual, ae_ireturn, dX4_count_5, dX4_count_6, dX4_count_7, dX4_count_9, dX4_count_12, dX4_count_15, dX4_count_16, dX4_count_17, dX4_count_20, dX4_count_23, dX4_count_24, dX4_count_25, dX4_count_28, ca_X4_count_36, ca_X4_count_124, ca_X4_count_58, ab_wp0, ab_wps, ab_stp, ab_g, ab_st, ab_k2, ab_cl, ab_pop, ab_sz, ab_2, ab_ret, ab_f4, ab_tg, ab_I, ab_II, ab_A, ab_Rf, ab_VR, ab_IR, ab_VIR, ab_1, ab_LL, ab_DD, ab_ob, ab_pr, ab_qr, ab_ln, ab_so, ab_vI, ab_vA, ab_vD, ab_vL, ab_v2, ab_c, ab_fit, ab_rv, ab_tsw, ab_lsw, ab_up_eq, Fin.isValue, ab_f0, ab_f1, ab_f2, ab_f3, List.getElem?_cons_zero, List.getElem?_cons_succ, List.set_cons_zero, List.set_cons_succ, List.length_cons, List.length_nil, List.size_toArray, List.head?_cons, List.tail_cons, Option.map_some, cond_true, cond_false, true_and, and_true, false_and, and_false, not_true_eq_false, not_false_eq_true, true_imp_iff, false_imp_iff, if_true, if_false, ite_true, ite_false, ↓reduceIte, Nat.reduceAdd, Nat.reduceEqDiff, Nat.reduceLeDiff, Nat.reduceLT, Nat.reduceBEq, Nat.reduceBNe, Int.reduceAdd, Int.reduceNeg, Int.reduceSub, Int.reduceLE, Int.reduceLT, Int.reduceToNat, Int.reduceEq, Int.reduceMul, Int.cast_ofNat_Int, Nat.zero_add, Nat.add_zero, Nat.le_refl, eq_self, ne_eq, reduceCtorEq, or_true, true_or, or_false, false_or, Bool.or_true, Bool.or_false, Bool.true_or, Bool.false_or, Nat.zero_le, Int.le_refl, Int.ofNat_zero, Int.ofNat_one, Bool.false_eq_true]
        try simp only [ab_in] at hs ⊢
        (repeat' (first | intro _ | refine And.intro ?_ ?_)) <;> (first | exact yy | contradiction | omega | (exfalso; omega))
    have hb0 := body _ (md_of (md_thr hm 0)) (ab_fr.rf.up md_inL.1)
    dsimp only [mdC] at hb0
    refine hV (fun p => p == 5) 80 _ _ _ _ _ _ ?_
    simp only [c, ae_aload_n, ae_iconst, ae_putfield, dX4_count_0, dX4_count_1, dX4_count_2, tbX4_p29, ca_X4_count_36, ca_X4_count_124, ca_X4_count_58, ab_wp0, ab_wps, ab_stp, ab_g, ab_st, ab_k2, ab_cl, ab_pop, ab_sz, ab_2, ab_ret, ab_f4, ab_tg, ab_I, ab_II, ab_A, ab_Rf, ab_VR, ab_IR, ab_VIR, ab_1, ab_LL, ab_DD, ab_ob, ab_pr, ab_qr, ab_ln, ab_so, ab_vI, ab_vA, ab_vD, ab_vL, ab_v2, ab_c, ab_fit, ab_rv, ab_tsw, ab_lsw, ab_up_eq, Fin.isValue, ab_f0, ab_f1, ab_f2, ab_f3, List.getElem?_cons_zero, List.getElem?_cons_succ, List.set_cons_zero, List.set_cons_succ, List.length_cons, List.length_nil, List.size_toArray, List.head?_cons, List.tail_cons, Option.map_some, cond_true, cond_false, true_and, and_true, false_and, and_false, not_true_eq_false, not_false_eq_true, true_imp_iff, false_imp_iff, if_true, if_false, ite_true, ite_false, ↓reduceIte, Nat.reduceAdd, Nat.reduceEqDiff, Nat.reduceLeDiff, Nat.reduceLT, Nat.reduceBEq, Nat.reduceBNe, Int.reduceAdd, Int.reduceNeg, Int.reduceSub, Int.reduceLE, Int.reduceLT, Int.reduceToNat, Int.reduceEq, Int.reduceMul, Int.cast_ofNat_Int, Nat.zero_add, Nat.add_zero, Nat.le_refl, eq_self, ne_eq, reduceCtorEq, or_true, true_or, or_false, false_or, Bool.or_true, Bool.or_false, Bool.true_or, Bool.false_or, Nat.zero_le, Int.le_refl, Int.ofNat_zero, Int.ofNat_one, Bool.false_eq_true]
    exact hb0
  · exact hT.elim
set_option maxRecDepth 100000 in
theorem con_X4_count (l : Launch) (D : va_G) (ty : Nat → ClassId) (base : Nat) : ab_Con l D vwCl ty lw_ts base lw_wd yX4_count cX4_count 2 (some .int) 7 152 0 0 Tr_X4_count :=
  ab_con_of (own := RX4) (rt := 1) (tb := tbX4) (ini := false) (ca := ca_X4_count) (by decide +kernel) rfl (fun h => by cases h) rfl lw_wd_ok wtbX4 lw_ar cm_X4_count
    (fun p e R s m args below meth c K hcx => by
      obtain ⟨hx, hb, hml, hown, hF, rfl⟩ := hcx
      exact ab_lk_all (ab_all_c (ab_tc_S hx hb hml hown lw_wd_ok hF ⟨rfl, rfl⟩ (con_X4_isIn l D ty base) (lw_wi (by decide +kernel) (by decide +kernel)) (lw_wi (by decide +kernel) (by decide +kernel)) (lw_wi (by decide +kernel) (by decide +kernel)) (lw_wi (by decide +kernel) (by decide +kernel)) (by decide +kernel) ⟨by decide, by decide⟩) (ab_all_c (ab_tc_V hx hb hml hown lw_wd_ok hF ⟨rfl, rfl⟩ (con_X4_counted l D ty base) rfl (lw_wi (by decide +kernel) (by decide +kernel)) (lw_wi (by decide +kernel) (by decide +kernel)) (lw_wi (by decide +kernel) (by decide +kernel)) (lw_wi (by decide +kernel) (by decide +kernel)) (lw_wi (by decide +kernel) (by decide +kernel)) (by decide +kernel) ⟨by decide, by decide⟩) (ab_all_c (ab_tc_V hx hb hml hown lw_wd_ok hF ⟨rfl, rfl⟩ (con_X4_fail l D ty base) rfl (lw_wi (by decide +kernel) (by decide +kernel)) (lw_wi (by decide +kernel) (by decide +kernel)) (lw_wi (by decide +kernel) (by decide +kernel)) (lw_wi (by decide +kernel) (by decide +kernel)) (lw_wi (by decide +kernel) (by decide +kernel)) (by decide +kernel) ⟨by decide, by decide⟩) (ab_all_n)))))
    (by intro as h K ht; unfold Tr_X4_count at ht; split at ht <;> first | exact ht.elim | exact Nat.le_of_ble_eq_true rfl) (sem_X4_count base)
noncomputable def Tr_X4_storm : ATr := fun as h K => match as with
  | [.inr (.inl (some a)), .inl force, .inl right, .inl what] => ab_so (ab_md h a) fun P => (bareV P.2 ∧ P.2.fnm 0 = 0 ∧ (ab_in force ∧ ab_in right ∧ ab_in what ∧ (right = 0 ∨ right = 1))) ∧ (isUpToF force 20 = true ∧ isUpToF what 2 = true → ∀ h' v', ab_md h' a = some (P.1, v') → v'.thr = 0 → ab_kp h h' (mdL a P.1) → K (some (.inl (if what = 1 then (if force < 1 then 0 else 1) else 0))) h') ∧ (isUpToF force 20 = false → ∀ h' v', ab_md h' a = some (P.1, v') → v'.thr = 1 → ab_kp h h' (mdL a P.1) → K (some (.inl (0))) h') ∧ (isUpToF force 20 = true ∧ isUpToF what 2 = false → ∀ h' v', ab_md h' a = some (P.1, v') → v'.thr = 2 → ab_kp h h' (mdL a P.1) → K (some (.inl (0))) h')
  | _ => False
theorem mo_X4_storm : ab_mo Tr_X4_storm := by
  intro as h K K' hk ht
  unfold Tr_X4_storm at ht ⊢
  split at ht
  · exact ab_so_mo (fun P q => ⟨q.1, fun e h' v' e1 e2 e3 => hk _ _ (q.2.1 e h' v' e1 e2 e3), fun e h' v' e1 e2 e3 => hk _ _ (q.2.2.1 e h' v' e1 e2 e3), fun e h' v' e1 e2 e3 => hk _ _ (q.2.2.2 e h' v' e1 e2 e3)⟩) ht
  · exact ht.elim
def ca_X4_storm : Nat → Option ACS := ab_lk [(36, (2, 0, 3, 0, 0, Tr_X4_isIn)), (58, (0, 4, 2, 0, 0, Tr_X4_fail)), (151, (0, 4, 4, 6, 4808, Tr_X4_would))]
theorem ca_X4_storm_36 : ca_X4_storm 36 = some (2, 0, 3, 0, 0, Tr_X4_isIn) := rfl
theorem ca_X4_storm_58 : ca_X4_storm 58 = some (0, 4, 2, 0, 0, Tr_X4_fail) := rfl
theorem ca_X4_storm_151 : ca_X4_storm 151 = some (0, 4, 4, 6, 4808, Tr_X4_would) := rfl
theorem cm_X4_storm : ∀ i q, ca_X4_storm i = some q → ab_moq i q := ab_lk_all (ab_all_c mo_X4_isIn (ab_all_c mo_X4_fail (ab_all_c mo_X4_would (ab_all_n))))
set_option maxRecDepth 100000 in
set_option maxHeartbeats 4000000 in
theorem sem_X4_storm (base : Nat) : ab_Sem tbX4 lw_ts base cX4_storm ca_X4_storm 1 4 6 4808 (fun as => ab_en as 4) Tr_X4_storm := by
  intro as h K hT V hV
  unfold Tr_X4_storm at hT
  split at hT
  · rename_i a force right what
    obtain ⟨⟨⟨b0, b1, b2, b3, b4, b5⟩, th, sl, f0, f1, f2, f3, f4, f5⟩, hP, ⟨hb, hs⟩, hK⟩ := ab_so_el hT
    obtain ⟨g0, g1, g2, g3, g4, g5⟩ := id hb
    dsimp only [MV.thr, MV.sl, MV.fst9, MV.fat, MV.frt, MV.ftb, MV.fnm, MV.fmk] at g0 g1 g2 g3 g4 g5 hK hs
    subst g0
    have hm := md_el hP
    obtain ⟨c, c0, c1, c2, c3, c4, c5, -⟩ := id hm
    dsimp only [mdC, MV.thr, MV.sl, MV.fst9, MV.fat, MV.frt, MV.ftb, MV.fnm, MV.fmk] at c c0 c1 c2 c3 c4 c5
    show V 0 [some (.inr (.inl (some a))), some (.inl force), some (.inl right), some (.inl what)] [] h 0 0
    obtain ⟨g6, hs⟩ := hs
    obtain ⟨hK0, hK1, hK2⟩ := hK
    have body : ∀ h1, ab_md h1 a = some ((b0, b1, b2, b3, b4, b5), (0, 0, f0, f1, f2, f3, f4, f5)) → ab_fr h h1 (mdL a (b0, b1, b2, b3, b4, b5)) → V 5 [some (.inr (.inl (some a))), some (.inl force), some (.inl right), some (.inl what)] [] h1 0 0 := by
      intro h1 hP1 fr1
      have hm1 := md_el hP1
      have hb1 : bareV (0, 0, f0, f1, f2, f3, f4, f5) := hb
      obtain ⟨c', c0', c1', c2', c3', c4', c5', -⟩ := id hm1
      dsimp only [mdC, MV.thr, MV.sl, MV.fst9, MV.fat, MV.frt, MV.ftb, MV.fnm, MV.fmk] at c' c0' c1' c2' c3' c4' c5'
      have y0 : isUpToF force 20 = true ∧ isUpToF what 2 = true → K (some (.inl (if what = 1 then (if force < 1 then 0 else 1) else 0))) h1 := fun e => hK0 e h1 _ hP1 rfl (ab_kp.of_fr fr1)
      have x1 : isUpToF force 20 = false → ∀ h2, ab_md h2 a = some ((b0, b1, b2, b3, b4, b5), (1, 0, f0, f1, f2, f3, f4, f5)) → ab_fr h1 h2 [a] → K (some (.inl 0)) h2 := fun e h2 w1 w2 => hK1 e h2 _ w1 rfl ((ab_kp.of_fr fr1).tr (ab_kp.of_fr (w2.sub (fun b hb => by rw [List.mem_singleton.mp hb]; exact md_inL.1))))
      have x2 : isUpToF force 20 = true ∧ isUpToF what 2 = false → ∀ h2, ab_md h2 a = some ((b0, b1, b2, b3, b4, b5), (2, 0, f0, f1, f2, f3, f4, f5)) → ab_fr h1 h2 [a] → K (some (.inl 0)) h2 := fun e h2 w1 w2 => hK2 e h2 _ w1 rfl ((ab_kp.of_fr fr1).tr (ab_kp.of_fr (w2.sub (fun b hb => by rw [List.mem_singleton.mp hb]; exact md_inL.1))))
      cases hu : isUpToF force 20
      · have hu2 : decide (0 ≤ force ∧ force ≤ 20) = false := hu
        refine hV (fun p => p == 21) 80 _ _ _ _ _ _ ?_
        simp only [c', hP1, hb1, hu2, bI_in, bI_0, bI_1, bI_t, bI_f, bI_01, Tr_X4_isIn, Tr_X4_fail, ae_aload_n, ae_bipush, ae_goto, ae_iconst, ae_ifCond, ae_iload_n, ae_invokestatic, ae_invokevirtual, ae_ireturn, dX4_storm_5, dX4_storm_6, dX4_storm_7, dX4_storm_9, dX4_storm_12, dX4_storm_15, dX4_storm_16, dX4_storm_17, dX4_storm_20, dX4_storm_21, dX4_storm_22, dX4_storm_23, dX4_storm_24, dX4_storm_27, dX4_storm_30, dX4_storm_31, dX4_storm_32, dX4_storm_33, dX4_storm_34, dX4_storm_37, dX4_storm_40, dX4_storm_41, dX4_storm_42, dX4_storm_45, ca_X4_storm_36, ca_X4_storm_58, ca_X4_storm_151, ab_wp0, ab_wps, ab_stp, ab_g, ab_st, ab_k2, ab_cl, ab_pop, ab_sz, ab_2, ab_ret, ab_f4, ab_tg, ab_I, ab_II, ab_A, ab_Rf, ab_VR, ab_IR, ab_VIR, ab_1, ab_LL, ab_DD, ab_ob, ab_pr, ab_qr, ab_ln, ab_so, ab_vI, ab_vA, ab_vD, ab_vL, ab_v2, ab_c, ab_fit, ab_rv, ab_tsw, ab_lsw, ab_up_eq, Fin.isValue, ab_f0, ab_f1, ab_f2, ab_f3, List.getElem?_cons_zero, List.getElem?_cons_succ, List.set_cons_zero, List.set_cons_succ, List.length_cons, List.length_nil, List.size_toArray, List.head?_cons, List.tail_cons, Option.map_some, cond_true, cond_false, true_and, and_true, false_and, and_false, not_true_eq_false, not_false_eq_true, true_imp_iff, false_imp_iff, if_true, if_false, ite_true, ite_false, ↓reduceIte, Nat.reduceAdd, Nat.reduceEqDiff, Nat.reduceLeDiff, Nat.reduceLT, Nat.reduceBEq, Nat.reduceBNe, Int.reduceAdd, Int.reduceNeg, Int.reduceSub, Int.reduceLE, Int.reduceLT, Int.reduceToNat, Int.reduceEq, Int.reduceMul, Int.cast_ofNat_Int, Nat.zero_add, Nat.add_zero, Nat.le_refl, eq_self, ne_eq, reduceCtorEq, or_true, true_or, or_false, false_or, Bool.or_true, Bool.or_false, Bool.true_or, Bool.false_or, Nat.zero_le, Int.le_refl, Int.ofNat_zero, Int.ofNat_one, Bool.false_eq_true]
        try simp only [ab_in] at hs ⊢
        (repeat' (first | intro _ | refine And.intro ?_ ?_)) <;> (first | exact x1 hu _ (by assumption) (by assumption) | contradiction | omega | (exfalso; omega))
      · cases hw : isUpToF what 2
        · have hu2 : decide (0 ≤ force ∧ force ≤ 20) = true := hu
          have hw2 : decide (0 ≤ what ∧ what ≤ 2) = false := hw
          refine hV (fun p => p == 30) 80 _ _ _ _ _ _ ?_
          simp only [c', hP1, hb1, hu2, hw2, bI_in, bI_0, bI_1, bI_t, bI_f, bI_01, Tr_X4_isIn, Tr_X4_fail, ae_aload_n, ae_bipush, ae_goto, ae_iconst, ae_ifCond, ae_iload_n, ae_invokestatic, ae_invokevirtual, ae_ireturn, dX4_storm_5, dX4_storm_6, dX4_storm_7, dX4_storm_9, dX4_storm_12, dX4_storm_15, dX4_storm_16, dX4_storm_17, dX4_storm_20, dX4_storm_21, dX4_storm_22, dX4_storm_23, dX4_storm_24, dX4_storm_27, dX4_storm_30, dX4_storm_31, dX4_storm_32, dX4_storm_33, dX4_storm_34, dX4_storm_37, dX4_storm_40, dX4_storm_41, dX4_storm_42, dX4_storm_45, ca_X4_storm_36, ca_X4_storm_58, ca_X4_storm_151, ab_wp0, ab_wps, ab_stp, ab_g, ab_st, ab_k2, ab_cl, ab_pop, ab_sz, ab_2, ab_ret, ab_f4, ab_tg, ab_I, ab_II, ab_A, ab_Rf, ab_VR, ab_IR, ab_VIR, ab_1, ab_LL, ab_DD, ab_ob, ab_pr, ab_qr, ab_ln, ab_so, ab_vI, ab_vA, ab_vD, ab_vL, ab_v2, ab_c, ab_fit, ab_rv, ab_tsw, ab_lsw, ab_up_eq, Fin.isValue, ab_f0, ab_f1, ab_f2, ab_f3, List.getElem?_cons_zero, List.getElem?_cons_succ, List.set_cons_zero, List.set_cons_succ, List.length_cons, List.length_nil, List.size_toArray, List.head?_cons, List.tail_cons, Option.map_some, cond_true, cond_false, true_and, and_true, false_and, and_false, not_true_eq_false, not_false_eq_true, true_imp_iff, false_imp_iff, if_true, if_false, ite_true, ite_false, ↓reduceIte, Nat.reduceAdd, Nat.reduceEqDiff, Nat.reduceLeDiff, Nat.reduceLT, Nat.reduceBEq, Nat.reduceBNe, Int.reduceAdd, Int.reduceNeg, Int.reduceSub, Int.reduceLE, Int.reduceLT, Int.reduceToNat, Int.reduceEq, Int.reduceMul, Int.cast_ofNat_Int, Nat.zero_add, Nat.add_zero, Nat.le_refl, eq_self, ne_eq, reduceCtorEq, or_true, true_or, or_false, false_or, Bool.or_true, Bool.or_false, Bool.true_or, Bool.false_or, Nat.zero_le, Int.le_refl, Int.ofNat_zero, Int.ofNat_one, Bool.false_eq_true]
          try simp only [ab_in] at hs ⊢
          (repeat' (first | intro _ | refine And.intro ?_ ?_)) <;> (first | exact x2 ⟨hu, hw⟩ _ (by assumption) (by assumption) | contradiction | omega | (exfalso; omega))
        · have hu2 : decide (0 ≤ force ∧ force ≤ 20) = true := hu
          have hw2 : decide (0 ≤ what ∧ what ≤ 2) = true := hw
          have hu3 : 0 ≤ force ∧ force ≤ 20 := of_decide_eq_true hu
          have hw3 : 0 ≤ what ∧ what ≤ 2 := of_decide_eq_true hw
          have e9 : (if force = 0 then (0 : Int) else 1) = if force < 1 then 0 else 1 := by
            by_cases h9 : force = 0
            · rw [if_pos h9, if_pos (by omega)]
            · rw [if_neg h9, if_neg (by omega)]
          have yy := fun h2 v2 (w1 : ab_md h2 a = some ((b0, b1, b2, b3, b4, b5), v2)) (w2 : bareV v2 ∧ v2.thr = 0) (w3 : ab_kp h1 h2 (mdL a (b0, b1, b2, b3, b4, b5))) => hK0 ⟨hu, hw⟩ h2 v2 w1 w2.2 ((ab_kp.of_fr fr1).tr w3)
          refine hV (fun p => p == 40) 80 _ _ _ _ _ _ ?_
          simp only [c', hP1, hb1, hu2, hw2, e9, bI_in, bI_0, bI_1, bI_t, bI_f, bI_01, Tr_X4_isIn, Tr_X4_would, ae_aload_n, ae_bipush, ae_goto, ae_iconst, ae_ifCond, ae_iload_n, ae_invokestatic, ae_invokevirtual, ae_ireturn, dX4_storm_5, dX4_storm_6, dX4_storm_7, dX4_storm_9, dX4_storm_12, dX4_storm_15, dX4_storm_16, dX4_storm_17, dX4_storm_20, dX4_storm_21, dX4_storm_22, dX4_storm_23, dX4_storm_24, dX4_storm_27, dX4_storm_30, dX4_storm_31, dX4_storm_32, dX4_storm_33, dX4_storm_34, dX4_storm_37, dX4_storm_40, dX4_storm_41, dX4_storm_42, dX4_storm_45, ca_X4_storm_36, ca_X4_storm_58, ca_X4_storm_151, ab_wp0, ab_wps, ab_stp, ab_g, ab_st, ab_k2, ab_cl, ab_pop, ab_sz, ab_2, ab_ret, ab_f4, ab_tg, ab_I, ab_II, ab_A, ab_Rf, ab_VR, ab_IR, ab_VIR, ab_1, ab_LL, ab_DD, ab_ob, ab_pr, ab_qr, ab_ln, ab_so, ab_vI, ab_vA, ab_vD, ab_vL, ab_v2, ab_c, ab_fit, ab_rv, ab_tsw, ab_lsw, ab_up_eq, Fin.isValue, ab_f0, ab_f1, ab_f2, ab_f3, List.getElem?_cons_zero, List.getElem?_cons_succ, List.set_cons_zero, List.set_cons_succ, List.length_cons, List.length_nil, List.size_toArray, List.head?_cons, List.tail_cons, Option.map_some, cond_true, cond_false, true_and, and_true, false_and, and_false, not_true_eq_false, not_false_eq_true, true_imp_iff, false_imp_iff, if_true, if_false, ite_true, ite_false, ↓reduceIte, Nat.reduceAdd, Nat.reduceEqDiff, Nat.reduceLeDiff, Nat.reduceLT, Nat.reduceBEq, Nat.reduceBNe, Int.reduceAdd, Int.reduceNeg, Int.reduceSub, Int.reduceLE, Int.reduceLT, Int.reduceToNat, Int.reduceEq, Int.reduceMul, Int.cast_ofNat_Int, Nat.zero_add, Nat.add_zero, Nat.le_refl, eq_self, ne_eq, reduceCtorEq, or_true, true_or, or_false, false_or, Bool.or_true, Bool.or_false, Bool.true_or, Bool.false_or, Nat.zero_le, Int.le_refl, Int.ofNat_zero, Int.ofNat_one, Bool.false_eq_true]
          try simp only [ab_in] at hs ⊢
          (repeat' (first | intro _ | refine And.intro ?_ ?_)) <;> (first | exact yy _ _ (by assumption) (by assumption) (by assumption) | contradiction | omega | (exfalso; omega))
    have hb0 := body _ (md_of (md_thr hm 0)) (ab_fr.rf.up md_inL.1)
    dsimp only [mdC] at hb0
    refine hV (fun p => p == 5) 80 _ _ _ _ _ _ ?_
    simp only [c, ae_aload_n, ae_iconst, ae_putfield, dX4_storm_0, dX4_storm_1, dX4_storm_2, tbX4_p29, ca_X4_storm_36, ca_X4_storm_58, ca_X4_storm_151, ab_wp0, ab_wps, ab_stp, ab_g, ab_st, ab_k2, ab_cl, ab_pop, ab_sz, ab_2, ab_ret, ab_f4, ab_tg, ab_I, ab_II, ab_A, ab_Rf, ab_VR, ab_IR, ab_VIR, ab_1, ab_LL, ab_DD, ab_ob, ab_pr, ab_qr, ab_ln, ab_so, ab_vI, ab_vA, ab_vD, ab_vL, ab_v2, ab_c, ab_fit, ab_rv, ab_tsw, ab_lsw, ab_up_eq, Fin.isValue, ab_f0, ab_f1, ab_f2, ab_f3, List.getElem?_cons_zero, List.getElem?_cons_succ, List.set_cons_zero, List.set_cons_succ, List.length_cons, List.length_nil, List.size_toArray, List.head?_cons, List.tail_cons, Option.map_some, cond_true, cond_false, true_and, and_true, false_and, and_false, not_true_eq_false, not_false_eq_true, true_imp_iff, false_imp_iff, if_true, if_false, ite_true, ite_false, ↓reduceIte, Nat.reduceAdd, Nat.reduceEqDiff, Nat.reduceLeDiff, Nat.reduceLT, Nat.reduceBEq, Nat.reduceBNe, Int.reduceAdd, Int.reduceNeg, Int.reduceSub, Int.reduceLE, Int.reduceLT, Int.reduceToNat, Int.reduceEq, Int.reduceMul, Int.cast_ofNat_Int, Nat.zero_add, Nat.add_zero, Nat.le_refl, eq_self, ne_eq, reduceCtorEq, or_true, true_or, or_false, false_or, Bool.or_true, Bool.or_false, Bool.true_or, Bool.false_or, Nat.zero_le, Int.le_refl, Int.ofNat_zero, Int.ofNat_one, Bool.false_eq_true]
    exact hb0
  · exact hT.elim
set_option maxRecDepth 100000 in
theorem con_X4_storm (l : Launch) (D : va_G) (ty : Nat → ClassId) (base : Nat) : ab_Con l D vwCl ty lw_ts base lw_wd yX4_storm cX4_storm 4 (some .int) 7 158 6 4808 Tr_X4_storm :=
  ab_con_of (own := RX4) (rt := 1) (tb := tbX4) (ini := false) (ca := ca_X4_storm) (by decide +kernel) rfl (fun h => by cases h) rfl lw_wd_ok wtbX4 lw_ar cm_X4_storm
    (fun p e R s m args below meth c K hcx => by
      obtain ⟨hx, hb, hml, hown, hF, rfl⟩ := hcx
      exact ab_lk_all (ab_all_c (ab_tc_S hx hb hml hown lw_wd_ok hF ⟨rfl, rfl⟩ (con_X4_isIn l D ty base) (lw_wi (by decide +kernel) (by decide +kernel)) (lw_wi (by decide +kernel) (by decide +kernel)) (lw_wi (by decide +kernel) (by decide +kernel)) (lw_wi (by decide +kernel) (by decide +kernel)) (by decide +kernel) ⟨by decide, by decide⟩) (ab_all_c (ab_tc_V hx hb hml hown lw_wd_ok hF ⟨rfl, rfl⟩ (con_X4_fail l D ty base) rfl (lw_wi (by decide +kernel) (by decide +kernel)) (lw_wi (by decide +kernel) (by decide +kernel)) (lw_wi (by decide +kernel) (by decide +kernel)) (lw_wi (by decide +kernel) (by decide +kernel)) (lw_wi (by decide +kernel) (by decide +kernel)) (by decide +kernel) ⟨by decide, by decide⟩) (ab_all_c (ab_tc_V hx hb hml hown lw_wd_ok hF ⟨rfl, rfl⟩ (con_X4_would l D ty base) rfl (lw_wi (by decide +kernel) (by decide +kernel)) (lw_wi (by decide +kernel) (by decide +kernel)) (lw_wi (by decide +kernel) (by decide +kernel)) (lw_wi (by decide +kernel) (by decide +kernel)) (lw_wi (by decide +kernel) (by decide +kernel)) (by decide +kernel) ⟨by decide, by decide⟩) (ab_all_n)))))
    (by intro as h K ht; unfold Tr_X4_storm at ht; split at ht <;> first | exact ht.elim | exact Nat.le_of_ble_eq_true rfl) (sem_X4_storm base)
noncomputable def Tr_X4_bears : ATr := fun as h K => match as with
  | [.inr (.inl (some a)), .inl right] => ab_so (ab_md h a) fun P => (bareV P.2 ∧ P.2.fnm 0 = 0 ∧ (right = 0 ∨ right = 1)) ∧ (True → ∀ h' v', ab_md h' a = some (P.1, v') → v'.thr = 0 → ab_kp h h' (mdL a P.1) → K (some (.inl (20))) h')
  | _ => False
theorem mo_X4_bears : ab_mo Tr_X4_bears := by
  intro as h K K' hk ht
  unfold Tr_X4_bears at ht ⊢
  split at ht
  · exact ab_so_mo (fun P q => ⟨q.1, fun e h' v' e1 e2 e3 => hk _ _ (q.2 e h' v' e1 e2 e3)⟩) ht
  · exact ht.elim
def ca_X4_bears : Nat → Option ACS := ab_lk [(151, (0, 4, 4, 6, 4808, Tr_X4_would))]
theorem ca_X4_bears_151 : ca_X4_bears 151 = some (0, 4, 4, 6, 4808, Tr_X4_would) := rfl
theorem cm_X4_bears : ∀ i q, ca_X4_bears i = some q → ab_moq i q := ab_lk_all (ab_all_c mo_X4_would (ab_all_n))
set_option maxRecDepth 100000 in
set_option maxHeartbeats 4000000 in
theorem sem_X4_bears (base : Nat) : ab_Sem tbX4 lw_ts base cX4_bears ca_X4_bears 1 3 120 96160 (fun as => ab_en as 3) Tr_X4_bears := by
  intro as h K hT V hV
  unfold Tr_X4_bears at hT
  split at hT
  · rename_i a right
    obtain ⟨⟨⟨b0, b1, b2, b3, b4, b5⟩, th, sl, f0, f1, f2, f3, f4, f5⟩, hP, ⟨hb, hs⟩, hK⟩ := ab_so_el hT
    obtain ⟨g0, g1, g2, g3, g4, g5⟩ := id hb
    dsimp only [MV.thr, MV.sl, MV.fst9, MV.fat, MV.frt, MV.ftb, MV.fnm, MV.fmk] at g0 g1 g2 g3 g4 g5 hK hs
    subst g0
    have hm := md_el hP
    obtain ⟨c, c0, c1, c2, c3, c4, c5, -⟩ := id hm
    dsimp only [mdC, MV.thr, MV.sl, MV.fst9, MV.fat, MV.frt, MV.ftb, MV.fnm, MV.fmk] at c c0 c1 c2 c3 c4 c5
    show V 0 [some (.inr (.inl (some a))), some (.inl right), none] [] h 0 0
    obtain ⟨g6, hs⟩ := hs
    have hK0 := hK
    have body : ∀ h1, ab_md h1 a = some ((b0, b1, b2, b3, b4, b5), (0, 0, f0, f1, f2, f3, f4, f5)) → ab_fr h h1 (mdL a (b0, b1, b2, b3, b4, b5)) → V 5 [some (.inr (.inl (some a))), some (.inl right), none] [] h1 0 0 := by
      intro h1 hP1 fr1
      have hm1 := md_el hP1
      have hb1 : bareV (0, 0, f0, f1, f2, f3, f4, f5) := hb
      obtain ⟨c', c0', c1', c2', c3', c4', c5', -⟩ := id hm1
      dsimp only [mdC, MV.thr, MV.sl, MV.fst9, MV.fat, MV.frt, MV.ftb, MV.fnm, MV.fmk] at c' c0' c1' c2' c3' c4' c5'
      have y0 : True → K (some (.inl (20))) h1 := fun e => hK0 e h1 _ hP1 rfl (ab_kp.of_fr fr1)
      have loop : ∀ (n : Nat) (f : Int) (k z : Nat) (h2 : AH) (v2 : MV), f + n = 20 → 0 ≤ f → k + 6 * n = 120 → z + 4808 * n = 96160 → ab_md h2 a = some ((b0, b1, b2, b3, b4, b5), v2) → bareV v2 → v2.thr = 0 → ab_kp h1 h2 (mdL a (b0, b1, b2, b3, b4, b5)) → V 7 [some (.inr (.inl (some a))), some (.inl right), some (.inl f)] [] h2 k z := by
        intro n
        induction n with
        | zero =>
          intro f k z h2 v2 e1 e2 e3 e4 q1 q2 q3 q4
          have hf : f = 20 := by omega
          subst hf
          have hk := hK0 trivial h2 v2 q1 q3 ((ab_kp.of_fr fr1).tr q4)
          refine hV (fun p => p == 13) 80 _ _ _ _ _ _ ?_
          simp only [ae_bipush, ae_if_icmp, ae_iload_n, dX4_bears_7, dX4_bears_8, dX4_bears_10, ca_X4_bears_151, ab_wp0, ab_wps, ab_stp, ab_g, ab_st, ab_k2, ab_cl, ab_pop, ab_sz, ab_2, ab_ret, ab_f4, ab_tg, ab_I, ab_II, ab_A, ab_Rf, ab_VR, ab_IR, ab_VIR, ab_1, ab_LL, ab_DD, ab_ob, ab_pr, ab_qr, ab_ln, ab_so, ab_vI, ab_vA, ab_vD, ab_vL, ab_v2, ab_c, ab_fit, ab_rv, ab_tsw, ab_lsw, ab_up_eq, Fin.isValue, ab_f0, ab_f1, ab_f2, ab_f3, List.getElem?_cons_zero, List.getElem?_cons_succ, List.set_cons_zero, List.set_cons_succ, List.length_cons, List.length_nil, List.size_toArray, List.head?_cons, List.tail_cons, Option.map_some, cond_true, cond_false, true_and, and_true, false_and, and_false, not_true_eq_false, not_false_eq_true, true_imp_iff, false_imp_iff, if_true, if_false, ite_true, ite_false, ↓reduceIte, Nat.reduceAdd, Nat.reduceEqDiff, Nat.reduceLeDiff, Nat.reduceLT, Nat.reduceBEq, Nat.reduceBNe, Int.reduceAdd, Int.reduceNeg, Int.reduceSub, Int.reduceLE, Int.reduceLT, Int.reduceToNat, Int.reduceEq, Int.reduceMul, Int.cast_ofNat_Int, Nat.zero_add, Nat.add_zero, Nat.le_refl, eq_self, ne_eq, reduceCtorEq, or_true, true_or, or_false, false_or, Bool.or_true, Bool.or_false, Bool.true_or, Bool.false_or, Nat.zero_le, Int.le_refl, Int.ofNat_zero, Int.ofNat_one, Bool.false_eq_true, ae_iload_n, ae_ireturn, dX4_bears_31, dX4_bears_32, ca_X4_bears_151, ab_wp0, ab_wps, ab_stp, ab_g, ab_st, ab_k2, ab_cl, ab_pop, ab_sz, ab_2, ab_ret, ab_f4, ab_tg, ab_I, ab_II, ab_A, ab_Rf, ab_VR, ab_IR, ab_VIR, ab_1, ab_LL, ab_DD, ab_ob, ab_pr, ab_qr, ab_ln, ab_so, ab_vI, ab_vA, ab_vD, ab_vL, ab_v2, ab_c, ab_fit, ab_rv, ab_tsw, ab_lsw, ab_up_eq, Fin.isValue, ab_f0, ab_f1, ab_f2, ab_f3, List.getElem?_cons_zero, List.getElem?_cons_succ, List.set_cons_zero, List.set_cons_succ, List.length_cons, List.length_nil, List.size_toArray, List.head?_cons, List.tail_cons, Option.map_some, cond_true, cond_false, true_and, and_true, false_and, and_false, not_true_eq_false, not_false_eq_true, true_imp_iff, false_imp_iff, if_true, if_false, ite_true, ite_false, ↓reduceIte, Nat.reduceAdd, Nat.reduceEqDiff, Nat.reduceLeDiff, Nat.reduceLT, Nat.reduceBEq, Nat.reduceBNe, Int.reduceAdd, Int.reduceNeg, Int.reduceSub, Int.reduceLE, Int.reduceLT, Int.reduceToNat, Int.reduceEq, Int.reduceMul, Int.cast_ofNat_Int, Nat.zero_add, Nat.add_zero, Nat.le_refl, eq_self, ne_eq, reduceCtorEq, or_true, true_or, or_false, false_or, Bool.or_true, Bool.or_false, Bool.true_or, Bool.false_or, Nat.zero_le, Int.le_refl, Int.ofNat_zero, Int.ofNat_one, Bool.false_eq_true]
          simp only [ab_in]
          (repeat' (first | intro _ | refine And.intro ?_ ?_)) <;> (first | exact hk | contradiction | omega | (exfalso; omega))
        | succ n ih =>
          intro f k z h2 v2 e1 e2 e3 e4 q1 q2 q3 q4
          have ih' : ∀ h3 v3, ab_md h3 a = some ((b0, b1, b2, b3, b4, b5), v3) → (bareV v3 ∧ v3.thr = v2.thr) → ab_kp h2 h3 (mdL a (b0, b1, b2, b3, b4, b5)) → V 7 [some (.inr (.inl (some a))), some (.inl right), some (.inl (f + 1))] [] h3 (k + 6) (z + 4808) := fun h3 v3 w1 w2 w3 => ih (f + 1) (k + 6) (z + 4808) h3 v3 (by omega) (by omega) (by omega) (by omega) w1 w2.1 (w2.2.trans q3) (q4.tr w3)
          have hc2 : ∃ fs, h2 a = some (.inl (4, fs)) := ⟨_, (md_el q1).1⟩
          obtain ⟨fs, hc2⟩ := hc2
          have e9 : (if (0 : Int) = 1 then (if f + 1 = 0 then (0 : Int) else 1) else 0) = 0 := if_neg (by decide)
          have l13 : V 13 [some (.inr (.inl (some a))), some (.inl right), some (.inl f)] [] h2 k z := by
            refine hV (fun p => p == 7) 80 _ _ _ _ _ _ ?_
            simp only [hc2, q1, q2, e9, bI_in, bI_0, bI_1, bI_t, bI_f, bI_01, Tr_X4_would, ae_aload_n, ae_goto, ae_iadd, ae_iconst, ae_ifCond, ae_iinc, ae_iload_n, ae_invokevirtual, dX4_bears_13, dX4_bears_14, dX4_bears_15, dX4_bears_16, dX4_bears_17, dX4_bears_18, dX4_bears_19, dX4_bears_22, dX4_bears_25, dX4_bears_28, ca_X4_bears_151, ab_wp0, ab_wps, ab_stp, ab_g, ab_st, ab_k2, ab_cl, ab_pop, ab_sz, ab_2, ab_ret, ab_f4, ab_tg, ab_I, ab_II, ab_A, ab_Rf, ab_VR, ab_IR, ab_VIR, ab_1, ab_LL, ab_DD, ab_ob, ab_pr, ab_qr, ab_ln, ab_so, ab_vI, ab_vA, ab_vD, ab_vL, ab_v2, ab_c, ab_fit, ab_rv, ab_tsw, ab_lsw, ab_up_eq, Fin.isValue, ab_f0, ab_f1, ab_f2, ab_f3, List.getElem?_cons_zero, List.getElem?_cons_succ, List.set_cons_zero, List.set_cons_succ, List.length_cons, List.length_nil, List.size_toArray, List.head?_cons, List.tail_cons, Option.map_some, cond_true, cond_false, true_and, and_true, false_and, and_false, not_true_eq_false, not_false_eq_true, true_imp_iff, false_imp_iff, if_true, if_false, ite_true, ite_false, ↓reduceIte, Nat.reduceAdd, Nat.reduceEqDiff, Nat.reduceLeDiff, Nat.reduceLT, Nat.reduceBEq, Nat.reduceBNe, Int.reduceAdd, Int.reduceNeg, Int.reduceSub, Int.reduceLE, Int.reduceLT, Int.reduceToNat, Int.reduceEq, Int.reduceMul, Int.cast_ofNat_Int, Nat.zero_add, Nat.add_zero, Nat.le_refl, eq_self, ne_eq, reduceCtorEq, or_true, true_or, or_false, false_or, Bool.or_true, Bool.or_false, Bool.true_or, Bool.false_or, Nat.zero_le, Int.le_refl, Int.ofNat_zero, Int.ofNat_one, Bool.false_eq_true]
            try simp only [ab_in]
            (repeat' (first | intro _ | refine And.intro ?_ ?_)) <;> (first | exact ih' _ _ (by assumption) (by assumption) (by assumption) | contradiction | omega | (exfalso; omega))
          refine hV (fun p => bif p == 13 then true else p == 31) 80 _ _ _ _ _ _ ?_
          simp only [ae_bipush, ae_if_icmp, ae_iload_n, dX4_bears_7, dX4_bears_8, dX4_bears_10, ca_X4_bears_151, ab_wp0, ab_wps, ab_stp, ab_g, ab_st, ab_k2, ab_cl, ab_pop, ab_sz, ab_2, ab_ret, ab_f4, ab_tg, ab_I, ab_II, ab_A, ab_Rf, ab_VR, ab_IR, ab_VIR, ab_1, ab_LL, ab_DD, ab_ob, ab_pr, ab_qr, ab_ln, ab_so, ab_vI, ab_vA, ab_vD, ab_vL, ab_v2, ab_c, ab_fit, ab_rv, ab_tsw, ab_lsw, ab_up_eq, Fin.isValue, ab_f0, ab_f1, ab_f2, ab_f3, List.getElem?_cons_zero, List.getElem?_cons_succ, List.set_cons_zero, List.set_cons_succ, List.length_cons, List.length_nil, List.size_toArray, List.head?_cons, List.tail_cons, Option.map_some, cond_true, cond_false, true_and, and_true, false_and, and_false, not_true_eq_false, not_false_eq_true, true_imp_iff, false_imp_iff, if_true, if_false, ite_true, ite_false, ↓reduceIte, Nat.reduceAdd, Nat.reduceEqDiff, Nat.reduceLeDiff, Nat.reduceLT, Nat.reduceBEq, Nat.reduceBNe, Int.reduceAdd, Int.reduceNeg, Int.reduceSub, Int.reduceLE, Int.reduceLT, Int.reduceToNat, Int.reduceEq, Int.reduceMul, Int.cast_ofNat_Int, Nat.zero_add, Nat.add_zero, Nat.le_refl, eq_self, ne_eq, reduceCtorEq, or_true, true_or, or_false, false_or, Bool.or_true, Bool.or_false, Bool.true_or, Bool.false_or, Nat.zero_le, Int.le_refl, Int.ofNat_zero, Int.ofNat_one, Bool.false_eq_true]
          simp only [ab_in]
          (repeat' (first | intro _ | refine And.intro ?_ ?_)) <;> (first | exact l13 | contradiction | omega | (exfalso; omega))
      have l0 := loop 20 0 0 0 h1 _ (by omega) (by omega) (by omega) (by omega) hP1 hb1 rfl ab_kp.rf
      refine hV (fun p => p == 7) 80 _ _ _ _ _ _ ?_
      simp only [ae_iconst, ae_istore_n, dX4_bears_5, dX4_bears_6, ca_X4_bears_151, ab_wp0, ab_wps, ab_stp, ab_g, ab_st, ab_k2, ab_cl, ab_pop, ab_sz, ab_2, ab_ret, ab_f4, ab_tg, ab_I, ab_II, ab_A, ab_Rf, ab_VR, ab_IR, ab_VIR, ab_1, ab_LL, ab_DD, ab_ob, ab_pr, ab_qr, ab_ln, ab_so, ab_vI, ab_vA, ab_vD, ab_vL, ab_v2, ab_c, ab_fit, ab_rv, ab_tsw, ab_lsw, ab_up_eq, Fin.isValue, ab_f0, ab_f1, ab_f2, ab_f3, List.getElem?_cons_zero, List.getElem?_cons_succ, List.set_cons_zero, List.set_cons_succ, List.length_cons, List.length_nil, List.size_toArray, List.head?_cons, List.tail_cons, Option.map_some, cond_true, cond_false, true_and, and_true, false_and, and_false, not_true_eq_false, not_false_eq_true, true_imp_iff, false_imp_iff, if_true, if_false, ite_true, ite_false, ↓reduceIte, Nat.reduceAdd, Nat.reduceEqDiff, Nat.reduceLeDiff, Nat.reduceLT, Nat.reduceBEq, Nat.reduceBNe, Int.reduceAdd, Int.reduceNeg, Int.reduceSub, Int.reduceLE, Int.reduceLT, Int.reduceToNat, Int.reduceEq, Int.reduceMul, Int.cast_ofNat_Int, Nat.zero_add, Nat.add_zero, Nat.le_refl, eq_self, ne_eq, reduceCtorEq, or_true, true_or, or_false, false_or, Bool.or_true, Bool.or_false, Bool.true_or, Bool.false_or, Nat.zero_le, Int.le_refl, Int.ofNat_zero, Int.ofNat_one, Bool.false_eq_true]
      exact l0
    have hb0 := body _ (md_of (md_thr hm 0)) (ab_fr.rf.up md_inL.1)
    dsimp only [mdC] at hb0
    refine hV (fun p => p == 5) 80 _ _ _ _ _ _ ?_
    simp only [c, ae_aload_n, ae_iconst, ae_putfield, dX4_bears_0, dX4_bears_1, dX4_bears_2, tbX4_p29, ca_X4_bears_151, ab_wp0, ab_wps, ab_stp, ab_g, ab_st, ab_k2, ab_cl, ab_pop, ab_sz, ab_2, ab_ret, ab_f4, ab_tg, ab_I, ab_II, ab_A, ab_Rf, ab_VR, ab_IR, ab_VIR, ab_1, ab_LL, ab_DD, ab_ob, ab_pr, ab_qr, ab_ln, ab_so, ab_vI, ab_vA, ab_vD, ab_vL, ab_v2, ab_c, ab_fit, ab_rv, ab_tsw, ab_lsw, ab_up_eq, Fin.isValue, ab_f0, ab_f1, ab_f2, ab_f3, List.getElem?_cons_zero, List.getElem?_cons_succ, List.set_cons_zero, List.set_cons_succ, List.length_cons, List.length_nil, List.size_toArray, List.head?_cons, List.tail_cons, Option.map_some, cond_true, cond_false, true_and, and_true, false_and, and_false, not_true_eq_false, not_false_eq_true, true_imp_iff, false_imp_iff, if_true, if_false, ite_true, ite_false, ↓reduceIte, Nat.reduceAdd, Nat.reduceEqDiff, Nat.reduceLeDiff, Nat.reduceLT, Nat.reduceBEq, Nat.reduceBNe, Int.reduceAdd, Int.reduceNeg, Int.reduceSub, Int.reduceLE, Int.reduceLT, Int.reduceToNat, Int.reduceEq, Int.reduceMul, Int.cast_ofNat_Int, Nat.zero_add, Nat.add_zero, Nat.le_refl, eq_self, ne_eq, reduceCtorEq, or_true, true_or, or_false, false_or, Bool.or_true, Bool.or_false, Bool.true_or, Bool.false_or, Nat.zero_le, Int.le_refl, Int.ofNat_zero, Int.ofNat_one, Bool.false_eq_true]
    exact hb0
  · exact hT.elim
set_option maxRecDepth 100000 in
theorem con_X4_bears (l : Launch) (D : va_G) (ty : Nat → ClassId) (base : Nat) : ab_Con l D vwCl ty lw_ts base lw_wd yX4_bears cX4_bears 3 (some .int) 7 158 120 96160 Tr_X4_bears :=
  ab_con_of (own := RX4) (rt := 1) (tb := tbX4) (ini := false) (ca := ca_X4_bears) (by decide +kernel) rfl (fun h => by cases h) rfl lw_wd_ok wtbX4 lw_ar cm_X4_bears
    (fun p e R s m args below meth c K hcx => by
      obtain ⟨hx, hb, hml, hown, hF, rfl⟩ := hcx
      exact ab_lk_all (ab_all_c (ab_tc_V hx hb hml hown lw_wd_ok hF ⟨rfl, rfl⟩ (con_X4_would l D ty base) rfl (lw_wi (by decide +kernel) (by decide +kernel)) (lw_wi (by decide +kernel) (by decide +kernel)) (lw_wi (by decide +kernel) (by decide +kernel)) (lw_wi (by decide +kernel) (by decide +kernel)) (lw_wi (by decide +kernel) (by decide +kernel)) (by decide +kernel) ⟨by decide, by decide⟩) (ab_all_n)))
    (by intro as h K ht; unfold Tr_X4_bears at ht; split at ht <;> first | exact ht.elim | exact Nat.le_of_ble_eq_true rfl) (sem_X4_bears base)
noncomputable def Tr_X4_comes : ATr := fun as h K => match as with
  | [.inr (.inl (some a)), .inl rain, .inl x, .inl y] => ab_so (ab_md h a) fun P => (bareV P.2 ∧ P.2.fnm 0 = 0 ∧ (ab_in rain ∧ ab_in x ∧ ab_in y)) ∧ (isUpToF rain 9 = true ∧ isPlaceF x y = true → ∀ h' v', ab_md h' a = some (P.1, v') → v'.thr = 0 → ab_kp h h' (mdL a P.1) → K (some (.inl (cF rain (8 - y).toNat 0))) h') ∧ (isUpToF rain 9 = false → ∀ h' v', ab_md h' a = some (P.1, v') → v'.thr = 1 → ab_kp h h' (mdL a P.1) → K (some (.inl (0))) h') ∧ (isUpToF rain 9 = true ∧ isPlaceF x y = false → ∀ h' v', ab_md h' a = some (P.1, v') → v'.thr = 2 → ab_kp h h' (mdL a P.1) → K (some (.inl (0))) h')
  | _ => False
theorem mo_X4_comes : ab_mo Tr_X4_comes := by
  intro as h K K' hk ht
  unfold Tr_X4_comes at ht ⊢
  split at ht
  · exact ab_so_mo (fun P q => ⟨q.1, fun e h' v' e1 e2 e3 => hk _ _ (q.2.1 e h' v' e1 e2 e3), fun e h' v' e1 e2 e3 => hk _ _ (q.2.2.1 e h' v' e1 e2 e3), fun e h' v' e1 e2 e3 => hk _ _ (q.2.2.2 e h' v' e1 e2 e3)⟩) ht
  · exact ht.elim
def ca_X4_comes : Nat → Option ACS := ab_lk [(36, (2, 0, 3, 0, 0, Tr_X4_isIn)), (58, (0, 4, 2, 0, 0, Tr_X4_fail)), (44, (2, 0, 2, 0, 0, Tr_X4_isPlace)), (155, (0, 4, 4, 0, 0, Tr_X4_comesIn))]
theorem ca_X4_comes_36 : ca_X4_comes 36 = some (2, 0, 3, 0, 0, Tr_X4_isIn) := rfl
theorem ca_X4_comes_58 : ca_X4_comes 58 = some (0, 4, 2, 0, 0, Tr_X4_fail) := rfl
theorem ca_X4_comes_44 : ca_X4_comes 44 = some (2, 0, 2, 0, 0, Tr_X4_isPlace) := rfl
theorem ca_X4_comes_155 : ca_X4_comes 155 = some (0, 4, 4, 0, 0, Tr_X4_comesIn) := rfl
theorem cm_X4_comes : ∀ i q, ca_X4_comes i = some q → ab_moq i q := ab_lk_all (ab_all_c mo_X4_isIn (ab_all_c mo_X4_fail (ab_all_c mo_X4_isPlace (ab_all_c mo_X4_comesIn (ab_all_n)))))
set_option maxRecDepth 100000 in
set_option maxHeartbeats 4000000 in
theorem sem_X4_comes (base : Nat) : ab_Sem tbX4 lw_ts base cX4_comes ca_X4_comes 1 4 0 0 (fun as => ab_en as 4) Tr_X4_comes := by
  intro as h K hT V hV
  unfold Tr_X4_comes at hT
  split at hT
  · rename_i a rain x y
    obtain ⟨⟨⟨b0, b1, b2, b3, b4, b5⟩, th, sl, f0, f1, f2, f3, f4, f5⟩, hP, ⟨hb, hs⟩, hK⟩ := ab_so_el hT
    obtain ⟨g0, g1, g2, g3, g4, g5⟩ := id hb
    dsimp only [MV.thr, MV.sl, MV.fst9, MV.fat, MV.frt, MV.ftb, MV.fnm, MV.fmk] at g0 g1 g2 g3 g4 g5 hK hs
    subst g0
    have hm := md_el hP
    obtain ⟨c, c0, c1, c2, c3, c4, c5, -⟩ := id hm
    dsimp only [mdC, MV.thr, MV.sl, MV.fst9, MV.fat, MV.frt, MV.ftb, MV.fnm, MV.fmk] at c c0 c1 c2 c3 c4 c5
    show V 0 [some (.inr (.inl (some a))), some (.inl rain), some (.inl x), some (.inl y)] [] h 0 0
    obtain ⟨g6, hs⟩ := hs
    obtain ⟨hK0, hK1, hK2⟩ := hK
    have body : ∀ h1, ab_md h1 a = some ((b0, b1, b2, b3, b4, b5), (0, 0, f0, f1, f2, f3, f4, f5)) → ab_fr h h1 (mdL a (b0, b1, b2, b3, b4, b5)) → V 5 [some (.inr (.inl (some a))), some (.inl rain), some (.inl x), some (.inl y)] [] h1 0 0 := by
      intro h1 hP1 fr1
      have hm1 := md_el hP1
      have hb1 : bareV (0, 0, f0, f1, f2, f3, f4, f5) := hb
      obtain ⟨c', c0', c1', c2', c3', c4', c5', -⟩ := id hm1
      dsimp only [mdC, MV.thr, MV.sl, MV.fst9, MV.fat, MV.frt, MV.ftb, MV.fnm, MV.fmk] at c' c0' c1' c2' c3' c4' c5'
      have y0 : isUpToF rain 9 = true ∧ isPlaceF x y = true → K (some (.inl (cF rain (8 - y).toNat 0))) h1 := fun e => hK0 e h1 _ hP1 rfl (ab_kp.of_fr fr1)
      have x1 : isUpToF rain 9 = false → ∀ h2, ab_md h2 a = some ((b0, b1, b2, b3, b4, b5), (1, 0, f0, f1, f2, f3, f4, f5)) → ab_fr h1 h2 [a] → K (some (.inl 0)) h2 := fun e h2 w1 w2 => hK1 e h2 _ w1 rfl ((ab_kp.of_fr fr1).tr (ab_kp.of_fr (w2.sub (fun b hb => by rw [List.mem_singleton.mp hb]; exact md_inL.1))))
      have x2 : isUpToF rain 9 = true ∧ isPlaceF x y = false → ∀ h2, ab_md h2 a = some ((b0, b1, b2, b3, b4, b5), (2, 0, f0, f1, f2, f3, f4, f5)) → ab_fr h1 h2 [a] → K (some (.inl 0)) h2 := fun e h2 w1 w2 => hK2 e h2 _ w1 rfl ((ab_kp.of_fr fr1).tr (ab_kp.of_fr (w2.sub (fun b hb => by rw [List.mem_singleton.mp hb]; exact md_inL.1))))
      cases hu : isUpToF rain 9
      · have hu2 : decide (0 ≤ rain ∧ rain ≤ 9) = false := hu
        refine hV (fun p => p == 21) 80 _ _ _ _ _ _ ?_
        simp only [c', hP1, hb1, hu2, bI_in, bI_0, bI_1, bI_t, bI_f, bI_01, Tr_X4_isIn, Tr_X4_fail, ae_aload_n, ae_bipush, ae_goto, ae_iconst, ae_ifCond, ae_iload_n, ae_invokestatic, ae_invokevirtual, ae_ireturn, dX4_comes_5, dX4_comes_6, dX4_comes_7, dX4_comes_9, dX4_comes_12, dX4_comes_15, dX4_comes_16, dX4_comes_17, dX4_comes_20, dX4_comes_21, dX4_comes_22, dX4_comes_23, dX4_comes_26, dX4_comes_29, dX4_comes_30, dX4_comes_31, dX4_comes_32, dX4_comes_33, dX4_comes_36, dX4_comes_39, dX4_comes_40, dX4_comes_41, dX4_comes_44, ca_X4_comes_36, ca_X4_comes_58, ca_X4_comes_44, ca_X4_comes_155, ab_wp0, ab_wps, ab_stp, ab_g, ab_st, ab_k2, ab_cl, ab_pop, ab_sz, ab_2, ab_ret, ab_f4, ab_tg, ab_I, ab_II, ab_A, ab_Rf, ab_VR, ab_IR, ab_VIR, ab_1, ab_LL, ab_DD, ab_ob, ab_pr, ab_qr, ab_ln, ab_so, ab_vI, ab_vA, ab_vD, ab_vL, ab_v2, ab_c, ab_fit, ab_rv, ab_tsw, ab_lsw, ab_up_eq, Fin.isValue, ab_f0, ab_f1, ab_f2, ab_f3, List.getElem?_cons_zero, List.getElem?_cons_succ, List.set_cons_zero, List.set_cons_succ, List.length_cons, List.length_nil, List.size_toArray, List.head?_cons, List.tail_cons, Option.map_some, cond_true, cond_false, true_and, and_true, false_and, and_false, not_true_eq_false, not_false_eq_true, true_imp_iff, false_imp_iff, if_true, if_false, ite_true, ite_false, ↓reduceIte, Nat.reduceAdd, Nat.reduceEqDiff, Nat.reduceLeDiff, Nat.reduceLT, Nat.reduceBEq, Nat.reduceBNe, Int.reduceAdd, Int.reduceNeg, Int.reduceSub, Int.reduceLE, Int.reduceLT, Int.reduceToNat, Int.reduceEq, Int.reduceMul, Int.cast_ofNat_Int, Nat.zero_add, Nat.add_zero, Nat.le_refl, eq_self, ne_eq, reduceCtorEq, or_true, true_or, or_false, false_or, Bool.or_true, Bool.or_false, Bool.true_or, Bool.false_or, Nat.zero_le, Int.le_refl, Int.ofNat_zero, Int.ofNat_one, Bool.false_eq_true]
        try simp only [ab_in] at hs ⊢
        (repeat' (first | intro _ | refine And.intro ?_ ?_)) <;> (first | exact x1 hu _ (by assumption) (by assumption) | contradiction | omega | (exfalso; omega))
      · have hu2 : decide (0 ≤ rain ∧ rain ≤ 9) = true := hu
        cases hp : isPlaceF x y
        · refine hV (fun p => p == 29) 80 _ _ _ _ _ _ ?_
          simp only [c', hP1, hb1, hu2, hp, bI_in, bI_0, bI_1, bI_t, bI_f, bI_01, Tr_X4_isIn, Tr_X4_isPlace, Tr_X4_fail, ae_aload_n, ae_bipush, ae_goto, ae_iconst, ae_ifCond, ae_iload_n, ae_invokestatic, ae_invokevirtual, ae_ireturn, dX4_comes_5, dX4_comes_6, dX4_comes_7, dX4_comes_9, dX4_comes_12, dX4_comes_15, dX4_comes_16, dX4_comes_17, dX4_comes_20, dX4_comes_21, dX4_comes_22, dX4_comes_23, dX4_comes_26, dX4_comes_29, dX4_comes_30, dX4_comes_31, dX4_comes_32, dX4_comes_33, dX4_comes_36, dX4_comes_39, dX4_comes_40, dX4_comes_41, dX4_comes_44, ca_X4_comes_36, ca_X4_comes_58, ca_X4_comes_44, ca_X4_comes_155, ab_wp0, ab_wps, ab_stp, ab_g, ab_st, ab_k2, ab_cl, ab_pop, ab_sz, ab_2, ab_ret, ab_f4, ab_tg, ab_I, ab_II, ab_A, ab_Rf, ab_VR, ab_IR, ab_VIR, ab_1, ab_LL, ab_DD, ab_ob, ab_pr, ab_qr, ab_ln, ab_so, ab_vI, ab_vA, ab_vD, ab_vL, ab_v2, ab_c, ab_fit, ab_rv, ab_tsw, ab_lsw, ab_up_eq, Fin.isValue, ab_f0, ab_f1, ab_f2, ab_f3, List.getElem?_cons_zero, List.getElem?_cons_succ, List.set_cons_zero, List.set_cons_succ, List.length_cons, List.length_nil, List.size_toArray, List.head?_cons, List.tail_cons, Option.map_some, cond_true, cond_false, true_and, and_true, false_and, and_false, not_true_eq_false, not_false_eq_true, true_imp_iff, false_imp_iff, if_true, if_false, ite_true, ite_false, ↓reduceIte, Nat.reduceAdd, Nat.reduceEqDiff, Nat.reduceLeDiff, Nat.reduceLT, Nat.reduceBEq, Nat.reduceBNe, Int.reduceAdd, Int.reduceNeg, Int.reduceSub, Int.reduceLE, Int.reduceLT, Int.reduceToNat, Int.reduceEq, Int.reduceMul, Int.cast_ofNat_Int, Nat.zero_add, Nat.add_zero, Nat.le_refl, eq_self, ne_eq, reduceCtorEq, or_true, true_or, or_false, false_or, Bool.or_true, Bool.or_false, Bool.true_or, Bool.false_or, Nat.zero_le, Int.le_refl, Int.ofNat_zero, Int.ofNat_one, Bool.false_eq_true]
          try simp only [ab_in] at hs ⊢
          (repeat' (first | intro _ | refine And.intro ?_ ?_)) <;> (first | exact x2 ⟨hu, hp⟩ _ (by assumption) (by assumption) | contradiction | omega | (exfalso; omega))
        · have hu3 : 0 ≤ rain ∧ rain ≤ 9 := of_decide_eq_true hu
          have hp3 : 0 ≤ x ∧ x < 12 ∧ 0 ≤ y ∧ y < 8 := of_decide_eq_true hp
          have yy := y0 ⟨hu, hp⟩
          refine hV (fun p => p == 39) 80 _ _ _ _ _ _ ?_
          simp only [c', hP1, hb1, hu2, hp, bI_in, bI_0, bI_1, bI_t, bI_f, bI_01, Tr_X4_isIn, Tr_X4_isPlace, Tr_X4_comesIn, ae_aload_n, ae_bipush, ae_goto, ae_iconst, ae_ifCond, ae_iload_n, ae_invokestatic, ae_invokevirtual, ae_ireturn, dX4_comes_5, dX4_comes_6, dX4_comes_7, dX4_comes_9, dX4_comes_12, dX4_comes_15, dX4_comes_16, dX4_comes_17, dX4_comes_20, dX4_comes_21, dX4_comes_22, dX4_comes_23, dX4_comes_26, dX4_comes_29, dX4_comes_30, dX4_comes_31, dX4_comes_32, dX4_comes_33, dX4_comes_36, dX4_comes_39, dX4_comes_40, dX4_comes_41, dX4_comes_44, ca_X4_comes_36, ca_X4_comes_58, ca_X4_comes_44, ca_X4_comes_155, ab_wp0, ab_wps, ab_stp, ab_g, ab_st, ab_k2, ab_cl, ab_pop, ab_sz, ab_2, ab_ret, ab_f4, ab_tg, ab_I, ab_II, ab_A, ab_Rf, ab_VR, ab_IR, ab_VIR, ab_1, ab_LL, ab_DD, ab_ob, ab_pr, ab_qr, ab_ln, ab_so, ab_vI, ab_vA, ab_vD, ab_vL, ab_v2, ab_c, ab_fit, ab_rv, ab_tsw, ab_lsw, ab_up_eq, Fin.isValue, ab_f0, ab_f1, ab_f2, ab_f3, List.getElem?_cons_zero, List.getElem?_cons_succ, List.set_cons_zero, List.set_cons_succ, List.length_cons, List.length_nil, List.size_toArray, List.head?_cons, List.tail_cons, Option.map_some, cond_true, cond_false, true_and, and_true, false_and, and_false, not_true_eq_false, not_false_eq_true, true_imp_iff, false_imp_iff, if_true, if_false, ite_true, ite_false, ↓reduceIte, Nat.reduceAdd, Nat.reduceEqDiff, Nat.reduceLeDiff, Nat.reduceLT, Nat.reduceBEq, Nat.reduceBNe, Int.reduceAdd, Int.reduceNeg, Int.reduceSub, Int.reduceLE, Int.reduceLT, Int.reduceToNat, Int.reduceEq, Int.reduceMul, Int.cast_ofNat_Int, Nat.zero_add, Nat.add_zero, Nat.le_refl, eq_self, ne_eq, reduceCtorEq, or_true, true_or, or_false, false_or, Bool.or_true, Bool.or_false, Bool.true_or, Bool.false_or, Nat.zero_le, Int.le_refl, Int.ofNat_zero, Int.ofNat_one, Bool.false_eq_true]
          try simp only [ab_in] at hs ⊢
          (repeat' (first | intro _ | refine And.intro ?_ ?_)) <;> (first | exact yy | contradiction | omega | (exfalso; omega))
    have hb0 := body _ (md_of (md_thr hm 0)) (ab_fr.rf.up md_inL.1)
    dsimp only [mdC] at hb0
    refine hV (fun p => p == 5) 80 _ _ _ _ _ _ ?_
    simp only [c, ae_aload_n, ae_iconst, ae_putfield, dX4_comes_0, dX4_comes_1, dX4_comes_2, tbX4_p29, ca_X4_comes_36, ca_X4_comes_58, ca_X4_comes_44, ca_X4_comes_155, ab_wp0, ab_wps, ab_stp, ab_g, ab_st, ab_k2, ab_cl, ab_pop, ab_sz, ab_2, ab_ret, ab_f4, ab_tg, ab_I, ab_II, ab_A, ab_Rf, ab_VR, ab_IR, ab_VIR, ab_1, ab_LL, ab_DD, ab_ob, ab_pr, ab_qr, ab_ln, ab_so, ab_vI, ab_vA, ab_vD, ab_vL, ab_v2, ab_c, ab_fit, ab_rv, ab_tsw, ab_lsw, ab_up_eq, Fin.isValue, ab_f0, ab_f1, ab_f2, ab_f3, List.getElem?_cons_zero, List.getElem?_cons_succ, List.set_cons_zero, List.set_cons_succ, List.length_cons, List.length_nil, List.size_toArray, List.head?_cons, List.tail_cons, Option.map_some, cond_true, cond_false, true_and, and_true, false_and, and_false, not_true_eq_false, not_false_eq_true, true_imp_iff, false_imp_iff, if_true, if_false, ite_true, ite_false, ↓reduceIte, Nat.reduceAdd, Nat.reduceEqDiff, Nat.reduceLeDiff, Nat.reduceLT, Nat.reduceBEq, Nat.reduceBNe, Int.reduceAdd, Int.reduceNeg, Int.reduceSub, Int.reduceLE, Int.reduceLT, Int.reduceToNat, Int.reduceEq, Int.reduceMul, Int.cast_ofNat_Int, Nat.zero_add, Nat.add_zero, Nat.le_refl, eq_self, ne_eq, reduceCtorEq, or_true, true_or, or_false, false_or, Bool.or_true, Bool.or_false, Bool.true_or, Bool.false_or, Nat.zero_le, Int.le_refl, Int.ofNat_zero, Int.ofNat_one, Bool.false_eq_true]
    exact hb0
  · exact hT.elim
set_option maxRecDepth 100000 in
theorem con_X4_comes (l : Launch) (D : va_G) (ty : Nat → ClassId) (base : Nat) : ab_Con l D vwCl ty lw_ts base lw_wd yX4_comes cX4_comes 4 (some .int) 6 134 0 0 Tr_X4_comes :=
  ab_con_of (own := RX4) (rt := 1) (tb := tbX4) (ini := false) (ca := ca_X4_comes) (by decide +kernel) rfl (fun h => by cases h) rfl lw_wd_ok wtbX4 lw_ar cm_X4_comes
    (fun p e R s m args below meth c K hcx => by
      obtain ⟨hx, hb, hml, hown, hF, rfl⟩ := hcx
      exact ab_lk_all (ab_all_c (ab_tc_S hx hb hml hown lw_wd_ok hF ⟨rfl, rfl⟩ (con_X4_isIn l D ty base) (lw_wi (by decide +kernel) (by decide +kernel)) (lw_wi (by decide +kernel) (by decide +kernel)) (lw_wi (by decide +kernel) (by decide +kernel)) (lw_wi (by decide +kernel) (by decide +kernel)) (by decide +kernel) ⟨by decide, by decide⟩) (ab_all_c (ab_tc_V hx hb hml hown lw_wd_ok hF ⟨rfl, rfl⟩ (con_X4_fail l D ty base) rfl (lw_wi (by decide +kernel) (by decide +kernel)) (lw_wi (by decide +kernel) (by decide +kernel)) (lw_wi (by decide +kernel) (by decide +kernel)) (lw_wi (by decide +kernel) (by decide +kernel)) (lw_wi (by decide +kernel) (by decide +kernel)) (by decide +kernel) ⟨by decide, by decide⟩) (ab_all_c (ab_tc_S hx hb hml hown lw_wd_ok hF ⟨rfl, rfl⟩ (con_X4_isPlace l D ty base) (lw_wi (by decide +kernel) (by decide +kernel)) (lw_wi (by decide +kernel) (by decide +kernel)) (lw_wi (by decide +kernel) (by decide +kernel)) (lw_wi (by decide +kernel) (by decide +kernel)) (by decide +kernel) ⟨by decide, by decide⟩) (ab_all_c (ab_tc_V hx hb hml hown lw_wd_ok hF ⟨rfl, rfl⟩ (con_X4_comesIn l D ty base) rfl (lw_wi (by decide +kernel) (by decide +kernel)) (lw_wi (by decide +kernel) (by decide +kernel)) (lw_wi (by decide +kernel) (by decide +kernel)) (lw_wi (by decide +kernel) (by decide +kernel)) (lw_wi (by decide +kernel) (by decide +kernel)) (by decide +kernel) ⟨by decide, by decide⟩) (ab_all_n))))))
    (by intro as h K ht; unfold Tr_X4_comes at ht; split at ht <;> first | exact ht.elim | exact Nat.le_of_ble_eq_true rfl) (sem_X4_comes base)
noncomputable def Tr_X4_leaks : ATr := fun as h K => match as with
  | [.inr (.inl (some a)), .inl rain] => ab_so (ab_md h a) fun P => (bareV P.2 ∧ P.2.fnm 0 = 0 ∧ (ab_in rain)) ∧ (isUpToF rain 9 = true → ∀ h' v', ab_md h' a = some (P.1, v') → v'.thr = 0 → ab_kp h h' (mdL a P.1) → K (some (.inl (allIF rain))) h') ∧ (isUpToF rain 9 = false → ∀ h' v', ab_md h' a = some (P.1, v') → v'.thr = 1 → ab_kp h h' (mdL a P.1) → K (some (.inl (0))) h')
  | _ => False
theorem mo_X4_leaks : ab_mo Tr_X4_leaks := by
  intro as h K K' hk ht
  unfold Tr_X4_leaks at ht ⊢
  split at ht
  · exact ab_so_mo (fun P q => ⟨q.1, fun e h' v' e1 e2 e3 => hk _ _ (q.2.1 e h' v' e1 e2 e3), fun e h' v' e1 e2 e3 => hk _ _ (q.2.2 e h' v' e1 e2 e3)⟩) ht
  · exact ht.elim
def ca_X4_leaks : Nat → Option ACS := ab_lk [(36, (2, 0, 3, 0, 0, Tr_X4_isIn)), (158, (0, 4, 2, 0, 0, Tr_X4_allIn)), (58, (0, 4, 2, 0, 0, Tr_X4_fail))]
theorem ca_X4_leaks_36 : ca_X4_leaks 36 = some (2, 0, 3, 0, 0, Tr_X4_isIn) := rfl
theorem ca_X4_leaks_158 : ca_X4_leaks 158 = some (0, 4, 2, 0, 0, Tr_X4_allIn) := rfl
theorem ca_X4_leaks_58 : ca_X4_leaks 58 = some (0, 4, 2, 0, 0, Tr_X4_fail) := rfl
theorem cm_X4_leaks : ∀ i q, ca_X4_leaks i = some q → ab_moq i q := ab_lk_all (ab_all_c mo_X4_isIn (ab_all_c mo_X4_allIn (ab_all_c mo_X4_fail (ab_all_n))))
set_option maxRecDepth 100000 in
set_option maxHeartbeats 4000000 in
theorem sem_X4_leaks (base : Nat) : ab_Sem tbX4 lw_ts base cX4_leaks ca_X4_leaks 1 2 0 0 (fun as => ab_en as 2) Tr_X4_leaks := by
  intro as h K hT V hV
  unfold Tr_X4_leaks at hT
  split at hT
  · rename_i a rain
    obtain ⟨⟨⟨b0, b1, b2, b3, b4, b5⟩, th, sl, f0, f1, f2, f3, f4, f5⟩, hP, ⟨hb, hs⟩, hK⟩ := ab_so_el hT
    obtain ⟨g0, g1, g2, g3, g4, g5⟩ := id hb
    dsimp only [MV.thr, MV.sl, MV.fst9, MV.fat, MV.frt, MV.ftb, MV.fnm, MV.fmk] at g0 g1 g2 g3 g4 g5 hK hs
    subst g0
    have hm := md_el hP
    obtain ⟨c, c0, c1, c2, c3, c4, c5, -⟩ := id hm
    dsimp only [mdC, MV.thr, MV.sl, MV.fst9, MV.fat, MV.frt, MV.ftb, MV.fnm, MV.fmk] at c c0 c1 c2 c3 c4 c5
    show V 0 [some (.inr (.inl (some a))), some (.inl rain)] [] h 0 0
    obtain ⟨g6, hs⟩ := hs
    obtain ⟨hK0, hK1⟩ := hK
    have body : ∀ h1, ab_md h1 a = some ((b0, b1, b2, b3, b4, b5), (0, 0, f0, f1, f2, f3, f4, f5)) → ab_fr h h1 (mdL a (b0, b1, b2, b3, b4, b5)) → V 5 [some (.inr (.inl (some a))), some (.inl rain)] [] h1 0 0 := by
      intro h1 hP1 fr1
      have hm1 := md_el hP1
      have hb1 : bareV (0, 0, f0, f1, f2, f3, f4, f5) := hb
      obtain ⟨c', c0', c1', c2', c3', c4', c5', -⟩ := id hm1
      dsimp only [mdC, MV.thr, MV.sl, MV.fst9, MV.fat, MV.frt, MV.ftb, MV.fnm, MV.fmk] at c' c0' c1' c2' c3' c4' c5'
      have y0 : isUpToF rain 9 = true → K (some (.inl (allIF rain))) h1 := fun e => hK0 e h1 _ hP1 rfl (ab_kp.of_fr fr1)
      have x1 : isUpToF rain 9 = false → ∀ h2, ab_md h2 a = some ((b0, b1, b2, b3, b4, b5), (1, 0, f0, f1, f2, f3, f4, f5)) → ab_fr h1 h2 [a] → K (some (.inl 0)) h2 := fun e h2 w1 w2 => hK1 e h2 _ w1 rfl ((ab_kp.of_fr fr1).tr (ab_kp.of_fr (w2.sub (fun b hb => by rw [List.mem_singleton.mp hb]; exact md_inL.1))))
      cases hu : isUpToF rain 9
      · have hu2 : decide (0 ≤ rain ∧ rain ≤ 9) = false := hu
        refine hV (fun p => p == 15) 80 _ _ _ _ _ _ ?_
        simp only [c', hP1, hb1, hu2, bI_in, bI_0, bI_1, bI_t, bI_f, bI_01, Tr_X4_isIn, Tr_X4_fail, ae_aload_n, ae_bipush, ae_goto, ae_iconst, ae_ifCond, ae_iload_n, ae_invokestatic, ae_invokevirtual, ae_ireturn, dX4_leaks_5, dX4_leaks_6, dX4_leaks_7, dX4_leaks_9, dX4_leaks_12, dX4_leaks_15, dX4_leaks_16, dX4_leaks_17, dX4_leaks_20, dX4_leaks_23, dX4_leaks_24, dX4_leaks_25, dX4_leaks_28, ca_X4_leaks_36, ca_X4_leaks_158, ca_X4_leaks_58, ab_wp0, ab_wps, ab_stp, ab_g, ab_st, ab_k2, ab_cl, ab_pop, ab_sz, ab_2, ab_ret, ab_f4, ab_tg, ab_I, ab_II, ab_A, ab_Rf, ab_VR, ab_IR, ab_VIR, ab_1, ab_LL, ab_DD, ab_ob, ab_pr, ab_qr, ab_ln, ab_so, ab_vI, ab_vA, ab_vD, ab_vL, ab_v2, ab_c, ab_fit, ab_rv, ab_tsw, ab_lsw, ab_up_eq, Fin.isValue, ab_f0, ab_f1, ab_f2, ab_f3, List.getElem?_cons_zero, List.getElem?_cons_succ, List.set_cons_zero, List.set_cons_succ, List.length_cons, List.length_nil, List.size_toArray, List.head?_cons, List.tail_cons, Option.map_some, cond_true, cond_false, true_and, and_true, false_and, and_false, not_true_eq_false, not_false_eq_true, true_imp_iff, false_imp_iff, if_true, if_false, ite_true, ite_false, ↓reduceIte, Nat.reduceAdd, Nat.reduceEqDiff, Nat.reduceLeDiff, Nat.reduceLT, Nat.reduceBEq, Nat.reduceBNe, Int.reduceAdd, Int.reduceNeg, Int.reduceSub, Int.reduceLE, Int.reduceLT, Int.reduceToNat, Int.reduceEq, Int.reduceMul, Int.cast_ofNat_Int, Nat.zero_add, Nat.add_zero, Nat.le_refl, eq_self, ne_eq, reduceCtorEq, or_true, true_or, or_false, false_or, Bool.or_true, Bool.or_false, Bool.true_or, Bool.false_or, Nat.zero_le, Int.le_refl, Int.ofNat_zero, Int.ofNat_one, Bool.false_eq_true]
        try simp only [ab_in] at hs ⊢
        (repeat' (first | intro _ | refine And.intro ?_ ?_)) <;> (first | exact x1 hu _ (by assumption) (by assumption) | contradiction | omega | (exfalso; omega))
      · have hu2 : decide (0 ≤ rain ∧ rain ≤ 9) = true := hu
        have hu3 : 0 ≤ rain ∧ rain ≤ 9 := of_decide_eq_true hu
        have yy := y0 hu
        refine hV (fun p => p == 23) 80 _ _ _ _ _ _ ?_
        simp only [c', hP1, hb1, hu2, bI_in, bI_0, bI_1, bI_t, bI_f, bI_01, Tr_X4_isIn, Tr_X4_allIn, ae_aload_n, ae_bipush, ae_goto, ae_iconst, ae_ifCond, ae_iload_n, ae_invokestatic, ae_invokevirtual, ae_ireturn, dX4_leaks_5, dX4_leaks_6, dX4_leaks_7, dX4_leaks_9, dX4_leaks_12, dX4_leaks_15, dX4_leaks_16, dX4_leaks_17, dX4_leaks_20, dX4_leaks_23, dX4_leaks_24, dX4_leaks_25, dX4_leaks_28, ca_X4_leaks_36, ca_X4_leaks_158, ca_X4_leaks_58, ab_wp0, ab_wps, ab_stp, ab_g, ab_st, ab_k2, ab_cl, ab_pop, ab_sz, ab_2, ab_ret, ab_f4, ab_tg, ab_I, ab_II, ab_A, ab_Rf, ab_VR, ab_IR, ab_VIR, ab_1, ab_LL, ab_DD, ab_ob, ab_pr, ab_qr, ab_ln, ab_so, ab_vI, ab_vA, ab_vD, ab_vL, ab_v2, ab_c, ab_fit, ab_rv, ab_tsw, ab_lsw, ab_up_eq, Fin.isValue, ab_f0, ab_f1, ab_f2, ab_f3, List.getElem?_cons_zero, List.getElem?_cons_succ, List.set_cons_zero, List.set_cons_succ, List.length_cons, List.length_nil, List.size_toArray, List.head?_cons, List.tail_cons, Option.map_some, cond_true, cond_false, true_and, and_true, false_and, and_false, not_true_eq_false, not_false_eq_true, true_imp_iff, false_imp_iff, if_true, if_false, ite_true, ite_false, ↓reduceIte, Nat.reduceAdd, Nat.reduceEqDiff, Nat.reduceLeDiff, Nat.reduceLT, Nat.reduceBEq, Nat.reduceBNe, Int.reduceAdd, Int.reduceNeg, Int.reduceSub, Int.reduceLE, Int.reduceLT, Int.reduceToNat, Int.reduceEq, Int.reduceMul, Int.cast_ofNat_Int, Nat.zero_add, Nat.add_zero, Nat.le_refl, eq_self, ne_eq, reduceCtorEq, or_true, true_or, or_false, false_or, Bool.or_true, Bool.or_false, Bool.true_or, Bool.false_or, Nat.zero_le, Int.le_refl, Int.ofNat_zero, Int.ofNat_one, Bool.false_eq_true]
        try simp only [ab_in] at hs ⊢
        (repeat' (first | intro _ | refine And.intro ?_ ?_)) <;> (first | exact yy | contradiction | omega | (exfalso; omega))
    have hb0 := body _ (md_of (md_thr hm 0)) (ab_fr.rf.up md_inL.1)
    dsimp only [mdC] at hb0
    refine hV (fun p => p == 5) 80 _ _ _ _ _ _ ?_
    simp only [c, ae_aload_n, ae_iconst, ae_putfield, dX4_leaks_0, dX4_leaks_1, dX4_leaks_2, tbX4_p29, ca_X4_leaks_36, ca_X4_leaks_158, ca_X4_leaks_58, ab_wp0, ab_wps, ab_stp, ab_g, ab_st, ab_k2, ab_cl, ab_pop, ab_sz, ab_2, ab_ret, ab_f4, ab_tg, ab_I, ab_II, ab_A, ab_Rf, ab_VR, ab_IR, ab_VIR, ab_1, ab_LL, ab_DD, ab_ob, ab_pr, ab_qr, ab_ln, ab_so, ab_vI, ab_vA, ab_vD, ab_vL, ab_v2, ab_c, ab_fit, ab_rv, ab_tsw, ab_lsw, ab_up_eq, Fin.isValue, ab_f0, ab_f1, ab_f2, ab_f3, List.getElem?_cons_zero, List.getElem?_cons_succ, List.set_cons_zero, List.set_cons_succ, List.length_cons, List.length_nil, List.size_toArray, List.head?_cons, List.tail_cons, Option.map_some, cond_true, cond_false, true_and, and_true, false_and, and_false, not_true_eq_false, not_false_eq_true, true_imp_iff, false_imp_iff, if_true, if_false, ite_true, ite_false, ↓reduceIte, Nat.reduceAdd, Nat.reduceEqDiff, Nat.reduceLeDiff, Nat.reduceLT, Nat.reduceBEq, Nat.reduceBNe, Int.reduceAdd, Int.reduceNeg, Int.reduceSub, Int.reduceLE, Int.reduceLT, Int.reduceToNat, Int.reduceEq, Int.reduceMul, Int.cast_ofNat_Int, Nat.zero_add, Nat.add_zero, Nat.le_refl, eq_self, ne_eq, reduceCtorEq, or_true, true_or, or_false, false_or, Bool.or_true, Bool.or_false, Bool.true_or, Bool.false_or, Nat.zero_le, Int.le_refl, Int.ofNat_zero, Int.ofNat_one, Bool.false_eq_true]
    exact hb0
  · exact hT.elim
set_option maxRecDepth 100000 in
theorem con_X4_leaks (l : Launch) (D : va_G) (ty : Nat → ClassId) (base : Nat) : ab_Con l D vwCl ty lw_ts base lw_wd yX4_leaks cX4_leaks 2 (some .int) 7 157 0 0 Tr_X4_leaks :=
  ab_con_of (own := RX4) (rt := 1) (tb := tbX4) (ini := false) (ca := ca_X4_leaks) (by decide +kernel) rfl (fun h => by cases h) rfl lw_wd_ok wtbX4 lw_ar cm_X4_leaks
    (fun p e R s m args below meth c K hcx => by
      obtain ⟨hx, hb, hml, hown, hF, rfl⟩ := hcx
      exact ab_lk_all (ab_all_c (ab_tc_S hx hb hml hown lw_wd_ok hF ⟨rfl, rfl⟩ (con_X4_isIn l D ty base) (lw_wi (by decide +kernel) (by decide +kernel)) (lw_wi (by decide +kernel) (by decide +kernel)) (lw_wi (by decide +kernel) (by decide +kernel)) (lw_wi (by decide +kernel) (by decide +kernel)) (by decide +kernel) ⟨by decide, by decide⟩) (ab_all_c (ab_tc_V hx hb hml hown lw_wd_ok hF ⟨rfl, rfl⟩ (con_X4_allIn l D ty base) rfl (lw_wi (by decide +kernel) (by decide +kernel)) (lw_wi (by decide +kernel) (by decide +kernel)) (lw_wi (by decide +kernel) (by decide +kernel)) (lw_wi (by decide +kernel) (by decide +kernel)) (lw_wi (by decide +kernel) (by decide +kernel)) (by decide +kernel) ⟨by decide, by decide⟩) (ab_all_c (ab_tc_V hx hb hml hown lw_wd_ok hF ⟨rfl, rfl⟩ (con_X4_fail l D ty base) rfl (lw_wi (by decide +kernel) (by decide +kernel)) (lw_wi (by decide +kernel) (by decide +kernel)) (lw_wi (by decide +kernel) (by decide +kernel)) (lw_wi (by decide +kernel) (by decide +kernel)) (lw_wi (by decide +kernel) (by decide +kernel)) (by decide +kernel) ⟨by decide, by decide⟩) (ab_all_n)))))
    (by intro as h K ht; unfold Tr_X4_leaks at ht; split at ht <;> first | exact ht.elim | exact Nat.le_of_ble_eq_true rfl) (sem_X4_leaks base)
noncomputable def Tr_X4_needs : ATr := fun as h K => match as with
  | [.inr (.inl (some a)), .inl row, .inl from9, .inl wide] => ab_so (ab_md h a) fun P => (bareV P.2 ∧ P.2.fnm 0 = 0 ∧ (ab_in row ∧ ab_in from9 ∧ ab_in wide)) ∧ (fitsF row from9 wide = true → ∀ h' v', ab_md h' a = some (P.1, v') → v'.thr = 0 → ab_kp h h' (mdL a P.1) → K (some (.inl (0))) h') ∧ (fitsF row from9 wide = false → ∀ h' v', ab_md h' a = some (P.1, v') → v'.thr = 1 → ab_kp h h' (mdL a P.1) → K (some (.inl (0))) h')
  | _ => False
theorem mo_X4_needs : ab_mo Tr_X4_needs := by
  intro as h K K' hk ht
  unfold Tr_X4_needs at ht ⊢
  split at ht
  · exact ab_so_mo (fun P q => ⟨q.1, fun e h' v' e1 e2 e3 => hk _ _ (q.2.1 e h' v' e1 e2 e3), fun e h' v' e1 e2 e3 => hk _ _ (q.2.2 e h' v' e1 e2 e3)⟩) ht
  · exact ht.elim
def ca_X4_needs : Nat → Option ACS := ab_lk [(55, (2, 0, 3, 0, 0, Tr_X4_isSpan)), (58, (0, 4, 2, 0, 0, Tr_X4_fail)), (48, (0, 4, 3, 0, 0, Tr_X4_slateAt))]
theorem ca_X4_needs_55 : ca_X4_needs 55 = some (2, 0, 3, 0, 0, Tr_X4_isSpan) := rfl
theorem ca_X4_needs_58 : ca_X4_needs 58 = some (0, 4, 2, 0, 0, Tr_X4_fail) := rfl
theorem ca_X4_needs_48 : ca_X4_needs 48 = some (0, 4, 3, 0, 0, Tr_X4_slateAt) := rfl
theorem cm_X4_needs : ∀ i q, ca_X4_needs i = some q → ab_moq i q := ab_lk_all (ab_all_c mo_X4_isSpan (ab_all_c mo_X4_fail (ab_all_c mo_X4_slateAt (ab_all_n))))
set_option maxRecDepth 100000 in
set_option maxHeartbeats 4000000 in
theorem sem_X4_needs (base : Nat) : ab_Sem tbX4 lw_ts base cX4_needs ca_X4_needs 1 9 0 0 (fun as => ab_en as 9) Tr_X4_needs := by
  intro as h K hT V hV
  unfold Tr_X4_needs at hT
  split at hT
  · rename_i a row from9 wide
    obtain ⟨⟨⟨b0, b1, b2, b3, b4, b5⟩, th, sl, f0, f1, f2, f3, f4, f5⟩, hP, ⟨hb, hs⟩, hK⟩ := ab_so_el hT
    obtain ⟨g0, g1, g2, g3, g4, g5⟩ := id hb
    dsimp only [MV.thr, MV.sl, MV.fst9, MV.fat, MV.frt, MV.ftb, MV.fnm, MV.fmk] at g0 g1 g2 g3 g4 g5 hK hs
    subst g0
    have hm := md_el hP
    obtain ⟨c, c0, c1, c2, c3, c4, c5, -⟩ := id hm
    dsimp only [mdC, MV.thr, MV.sl, MV.fst9, MV.fat, MV.frt, MV.ftb, MV.fnm, MV.fmk] at c c0 c1 c2 c3 c4 c5
    show V 0 [some (.inr (.inl (some a))), some (.inl row), some (.inl from9), some (.inl wide), none, none, none, none, none] [] h 0 0
    obtain ⟨g6, hs⟩ := hs
    obtain ⟨hK0, hK1⟩ := hK
    have body : ∀ h1, ab_md h1 a = some ((b0, b1, b2, b3, b4, b5), (0, 0, f0, f1, f2, f3, f4, f5)) → ab_fr h h1 (mdL a (b0, b1, b2, b3, b4, b5)) → V 5 [some (.inr (.inl (some a))), some (.inl row), some (.inl from9), some (.inl wide), none, none, none, none, none] [] h1 0 0 := by
      intro h1 hP1 fr1
      have hm1 := md_el hP1
      have hb1 : bareV (0, 0, f0, f1, f2, f3, f4, f5) := hb
      obtain ⟨c', c0', c1', c2', c3', c4', c5', -⟩ := id hm1
      dsimp only [mdC, MV.thr, MV.sl, MV.fst9, MV.fat, MV.frt, MV.ftb, MV.fnm, MV.fmk] at c' c0' c1' c2' c3' c4' c5'
      have y0 : fitsF row from9 wide = true → K (some (.inl (0))) h1 := fun e => hK0 e h1 _ hP1 rfl (ab_kp.of_fr fr1)
      have x1 : fitsF row from9 wide = false → ∀ h2, ab_md h2 a = some ((b0, b1, b2, b3, b4, b5), (1, 0, f0, f1, f2, f3, f4, f5)) → ab_fr h1 h2 [a] → K (some (.inl 0)) h2 := fun e h2 w1 w2 => hK1 e h2 _ w1 rfl ((ab_kp.of_fr fr1).tr (ab_kp.of_fr (w2.sub (fun b hb => by rw [List.mem_singleton.mp hb]; exact md_inL.1))))
      cases hf : fitsF row from9 wide
      · refine hV (fun p => p == 20) 80 _ _ _ _ _ _ ?_
        simp only [c', hP1, hb1, hf, bI_in, bI_0, bI_1, bI_t, bI_f, bI_01, Tr_X4_isSpan, Tr_X4_fail, ae_aload_n, ae_iconst, ae_ifCond, ae_iload_n, ae_invokestatic, ae_invokevirtual, ae_ireturn, dX4_needs_5, dX4_needs_6, dX4_needs_7, dX4_needs_8, dX4_needs_11, dX4_needs_14, dX4_needs_15, dX4_needs_16, dX4_needs_19, ca_X4_needs_55, ca_X4_needs_58, ca_X4_needs_48, ab_wp0, ab_wps, ab_stp, ab_g, ab_st, ab_k2, ab_cl, ab_pop, ab_sz, ab_2, ab_ret, ab_f4, ab_tg, ab_I, ab_II, ab_A, ab_Rf, ab_VR, ab_IR, ab_VIR, ab_1, ab_LL, ab_DD, ab_ob, ab_pr, ab_qr, ab_ln, ab_so, ab_vI, ab_vA, ab_vD, ab_vL, ab_v2, ab_c, ab_fit, ab_rv, ab_tsw, ab_lsw, ab_up_eq, Fin.isValue, ab_f0, ab_f1, ab_f2, ab_f3, List.getElem?_cons_zero, List.getElem?_cons_succ, List.set_cons_zero, List.set_cons_succ, List.length_cons, List.length_nil, List.size_toArray, List.head?_cons, List.tail_cons, Option.map_some, cond_true, cond_false, true_and, and_true, false_and, and_false, not_true_eq_false, not_false_eq_true, true_imp_iff, false_imp_iff, if_true, if_false, ite_true, ite_false, ↓reduceIte, Nat.reduceAdd, Nat.reduceEqDiff, Nat.reduceLeDiff, Nat.reduceLT, Nat.reduceBEq, Nat.reduceBNe, Int.reduceAdd, Int.reduceNeg, Int.reduceSub, Int.reduceLE, Int.reduceLT, Int.reduceToNat, Int.reduceEq, Int.reduceMul, Int.cast_ofNat_Int, Nat.zero_add, Nat.add_zero, Nat.le_refl, eq_self, ne_eq, reduceCtorEq, or_true, true_or, or_false, false_or, Bool.or_true, Bool.or_false, Bool.true_or, Bool.false_or, Nat.zero_le, Int.le_refl, Int.ofNat_zero, Int.ofNat_one, Bool.false_eq_true]
        try simp only [ab_in] at hs ⊢
        (repeat' (first | intro _ | refine And.intro ?_ ?_)) <;> (first | exact x1 hf _ (by assumption) (by assumption) | contradiction | omega | (exfalso; omega))
      · have hf2 : (0 ≤ from9 ∧ from9 < 12 ∧ 0 ≤ row ∧ row < 8) ∧ 1 ≤ wide ∧ wide ≤ 4 ∧ wide ≤ 12 - from9 := of_decide_eq_true hf
        have yy := y0 hf
        have loop : ∀ (n : Nat) (y : Int) (u6 : Option AV), y + n = 8 → 0 ≤ y → V 52 [some (.inr (.inl (some a))), some (.inl row), some (.inl from9), some (.inl wide), some (.inl 0), some (.inl y), u6, none, none] [] h1 0 0 := by
          intro n
          induction n with
          | zero =>
            intro y u6 e1 e2
            refine hV (fun p => p == 59) 80 _ _ _ _ _ _ ?_
            simp only [ae_bipush, ae_if_icmp, ae_iload, dX4_needs_52, dX4_needs_54, dX4_needs_56, ca_X4_needs_55, ca_X4_needs_58, ca_X4_needs_48, ab_wp0, ab_wps, ab_stp, ab_g, ab_st, ab_k2, ab_cl, ab_pop, ab_sz, ab_2, ab_ret, ab_f4, ab_tg, ab_I, ab_II, ab_A, ab_Rf, ab_VR, ab_IR, ab_VIR, ab_1, ab_LL, ab_DD, ab_ob, ab_pr, ab_qr, ab_ln, ab_so, ab_vI, ab_vA, ab_vD, ab_vL, ab_v2, ab_c, ab_fit, ab_rv, ab_tsw, ab_lsw, ab_up_eq, Fin.isValue, ab_f0, ab_f1, ab_f2, ab_f3, List.getElem?_cons_zero, List.getElem?_cons_succ, List.set_cons_zero, List.set_cons_succ, List.length_cons, List.length_nil, List.size_toArray, List.head?_cons, List.tail_cons, Option.map_some, cond_true, cond_false, true_and, and_true, false_and, and_false, not_true_eq_false, not_false_eq_true, true_imp_iff, false_imp_iff, if_true, if_false, ite_true, ite_false, ↓reduceIte, Nat.reduceAdd, Nat.reduceEqDiff, Nat.reduceLeDiff, Nat.reduceLT, Nat.reduceBEq, Nat.reduceBNe, Int.reduceAdd, Int.reduceNeg, Int.reduceSub, Int.reduceLE, Int.reduceLT, Int.reduceToNat, Int.reduceEq, Int.reduceMul, Int.cast_ofNat_Int, Nat.zero_add, Nat.add_zero, Nat.le_refl, eq_self, ne_eq, reduceCtorEq, or_true, true_or, or_false, false_or, Bool.or_true, Bool.or_false, Bool.true_or, Bool.false_or, Nat.zero_le, Int.le_refl, Int.ofNat_zero, Int.ofNat_one, Bool.false_eq_true, ae_iload, ae_ireturn, dX4_needs_261, dX4_needs_263, ca_X4_needs_55, ca_X4_needs_58, ca_X4_needs_48, ab_wp0, ab_wps, ab_stp, ab_g, ab_st, ab_k2, ab_cl, ab_pop, ab_sz, ab_2, ab_ret, ab_f4, ab_tg, ab_I, ab_II, ab_A, ab_Rf, ab_VR, ab_IR, ab_VIR, ab_1, ab_LL, ab_DD, ab_ob, ab_pr, ab_qr, ab_ln, ab_so, ab_vI, ab_vA, ab_vD, ab_vL, ab_v2, ab_c, ab_fit, ab_rv, ab_tsw, ab_lsw, ab_up_eq, Fin.isValue, ab_f0, ab_f1, ab_f2, ab_f3, List.getElem?_cons_zero, List.getElem?_cons_succ, List.set_cons_zero, List.set_cons_succ, List.length_cons, List.length_nil, List.size_toArray, List.head?_cons, List.tail_cons, Option.map_some, cond_true, cond_false, true_and, and_true, false_and, and_false, not_true_eq_false, not_false_eq_true, true_imp_iff, false_imp_iff, if_true, if_false, ite_true, ite_false, ↓reduceIte, Nat.reduceAdd, Nat.reduceEqDiff, Nat.reduceLeDiff, Nat.reduceLT, Nat.reduceBEq, Nat.reduceBNe, Int.reduceAdd, Int.reduceNeg, Int.reduceSub, Int.reduceLE, Int.reduceLT, Int.reduceToNat, Int.reduceEq, Int.reduceMul, Int.cast_ofNat_Int, Nat.zero_add, Nat.add_zero, Nat.le_refl, eq_self, ne_eq, reduceCtorEq, or_true, true_or, or_false, false_or, Bool.or_true, Bool.or_false, Bool.true_or, Bool.false_or, Nat.zero_le, Int.le_refl, Int.ofNat_zero, Int.ofNat_one, Bool.false_eq_true]
            simp only [ab_in]
            (repeat' (first | intro _ | refine And.intro ?_ ?_)) <;> (first | exact yy | contradiction | omega | (exfalso; omega))
          | succ n ih =>
            intro y u6 e1 e2
            have ih' := ih (y + 1) (some (.inl 0)) (by omega) (by omega)
            have l59 : V 59 [some (.inr (.inl (some a))), some (.inl row), some (.inl from9), some (.inl wide), some (.inl 0), some (.inl y), u6, none, none] [] h1 0 0 := by
              refine hV (fun p => bif p == 52 then true else p == 71) 80 _ _ _ _ _ _ ?_
              simp only [c', ae_aload_n, ae_getfield, ae_iconst, ae_if_icmp, ae_iload, ae_istore, dX4_needs_59, dX4_needs_60, dX4_needs_62, dX4_needs_64, dX4_needs_65, dX4_needs_68, tbX4_g33, ca_X4_needs_55, ca_X4_needs_58, ca_X4_needs_48, ab_wp0, ab_wps, ab_stp, ab_g, ab_st, ab_k2, ab_cl, ab_pop, ab_sz, ab_2, ab_ret, ab_f4, ab_tg, ab_I, ab_II, ab_A, ab_Rf, ab_VR, ab_IR, ab_VIR, ab_1, ab_LL, ab_DD, ab_ob, ab_pr, ab_qr, ab_ln, ab_so, ab_vI, ab_vA, ab_vD, ab_vL, ab_v2, ab_c, ab_fit, ab_rv, ab_tsw, ab_lsw, ab_up_eq, Fin.isValue, ab_f0, ab_f1, ab_f2, ab_f3, List.getElem?_cons_zero, List.getElem?_cons_succ, List.set_cons_zero, List.set_cons_succ, List.length_cons, List.length_nil, List.size_toArray, List.head?_cons, List.tail_cons, Option.map_some, cond_true, cond_false, true_and, and_true, false_and, and_false, not_true_eq_false, not_false_eq_true, true_imp_iff, false_imp_iff, if_true, if_false, ite_true, ite_false, ↓reduceIte, Nat.reduceAdd, Nat.reduceEqDiff, Nat.reduceLeDiff, Nat.reduceLT, Nat.reduceBEq, Nat.reduceBNe, Int.reduceAdd, Int.reduceNeg, Int.reduceSub, Int.reduceLE, Int.reduceLT, Int.reduceToNat, Int.reduceEq, Int.reduceMul, Int.cast_ofNat_Int, Nat.zero_add, Nat.add_zero, Nat.le_refl, eq_self, ne_eq, reduceCtorEq, or_true, true_or, or_false, false_or, Bool.or_true, Bool.or_false, Bool.true_or, Bool.false_or, Nat.zero_le, Int.le_refl, Int.ofNat_zero, Int.ofNat_one, Bool.false_eq_true, ae_goto, ae_iinc, dX4_needs_255, dX4_needs_258, ca_X4_needs_55, ca_X4_needs_58, ca_X4_needs_48, ab_wp0, ab_wps, ab_stp, ab_g, ab_st, ab_k2, ab_cl, ab_pop, ab_sz, ab_2, ab_ret, ab_f4, ab_tg, ab_I, ab_II, ab_A, ab_Rf, ab_VR, ab_IR, ab_VIR, ab_1, ab_LL, ab_DD, ab_ob, ab_pr, ab_qr, ab_ln, ab_so, ab_vI, ab_vA, ab_vD, ab_vL, ab_v2, ab_c, ab_fit, ab_rv, ab_tsw, ab_lsw, ab_up_eq, Fin.isValue, ab_f0, ab_f1, ab_f2, ab_f3, List.getElem?_cons_zero, List.getElem?_cons_succ, List.set_cons_zero, List.set_cons_succ, List.length_cons, List.length_nil, List.size_toArray, List.head?_cons, List.tail_cons, Option.map_some, cond_true, cond_false, true_and, and_true, false_and, and_false, not_true_eq_false, not_false_eq_true, true_imp_iff, false_imp_iff, if_true, if_false, ite_true, ite_false, ↓reduceIte, Nat.reduceAdd, Nat.reduceEqDiff, Nat.reduceLeDiff, Nat.reduceLT, Nat.reduceBEq, Nat.reduceBNe, Int.reduceAdd, Int.reduceNeg, Int.reduceSub, Int.reduceLE, Int.reduceLT, Int.reduceToNat, Int.reduceEq, Int.reduceMul, Int.cast_ofNat_Int, Nat.zero_add, Nat.add_zero, Nat.le_refl, eq_self, ne_eq, reduceCtorEq, or_true, true_or, or_false, false_or, Bool.or_true, Bool.or_false, Bool.true_or, Bool.false_or, Nat.zero_le, Int.le_refl, Int.ofNat_zero, Int.ofNat_one, Bool.false_eq_true]
              try simp only [ab_in]
              (repeat' (first | intro _ | refine And.intro ?_ ?_)) <;> (first | exact ih' | contradiction | omega | (exfalso; omega))
            refine hV (fun p => bif p == 59 then true else p == 261) 80 _ _ _ _ _ _ ?_
            simp only [ae_bipush, ae_if_icmp, ae_iload, dX4_needs_52, dX4_needs_54, dX4_needs_56, ca_X4_needs_55, ca_X4_needs_58, ca_X4_needs_48, ab_wp0, ab_wps, ab_stp, ab_g, ab_st, ab_k2, ab_cl, ab_pop, ab_sz, ab_2, ab_ret, ab_f4, ab_tg, ab_I, ab_II, ab_A, ab_Rf, ab_VR, ab_IR, ab_VIR, ab_1, ab_LL, ab_DD, ab_ob, ab_pr, ab_qr, ab_ln, ab_so, ab_vI, ab_vA, ab_vD, ab_vL, ab_v2, ab_c, ab_fit, ab_rv, ab_tsw, ab_lsw, ab_up_eq, Fin.isValue, ab_f0, ab_f1, ab_f2, ab_f3, List.getElem?_cons_zero, List.getElem?_cons_succ, List.set_cons_zero, List.set_cons_succ, List.length_cons, List.length_nil, List.size_toArray, List.head?_cons, List.tail_cons, Option.map_some, cond_true, cond_false, true_and, and_true, false_and, and_false, not_true_eq_false, not_false_eq_true, true_imp_iff, false_imp_iff, if_true, if_false, ite_true, ite_false, ↓reduceIte, Nat.reduceAdd, Nat.reduceEqDiff, Nat.reduceLeDiff, Nat.reduceLT, Nat.reduceBEq, Nat.reduceBNe, Int.reduceAdd, Int.reduceNeg, Int.reduceSub, Int.reduceLE, Int.reduceLT, Int.reduceToNat, Int.reduceEq, Int.reduceMul, Int.cast_ofNat_Int, Nat.zero_add, Nat.add_zero, Nat.le_refl, eq_self, ne_eq, reduceCtorEq, or_true, true_or, or_false, false_or, Bool.or_true, Bool.or_false, Bool.true_or, Bool.false_or, Nat.zero_le, Int.le_refl, Int.ofNat_zero, Int.ofNat_one, Bool.false_eq_true]
            simp only [ab_in]
            (repeat' (first | intro _ | refine And.intro ?_ ?_)) <;> (first | exact l59 | contradiction | omega | (exfalso; omega))
        have l0 := loop (8 - row).toNat row none (by omega) (by omega)
        refine hV (fun p => p == 52 || p == 35) 80 _ _ _ _ _ _ ?_
        simp only [c', hP1, hb1, hf, bI_in, bI_0, bI_1, bI_t, bI_f, bI_01, Tr_X4_isSpan, ae_aload_n, ae_bastore, ae_getfield, ae_goto, ae_iconst, ae_ifCond, ae_if_icmp, ae_iinc, ae_iload, ae_iload_n, ae_invokestatic, ae_invokevirtual, ae_ireturn, ae_istore, dX4_needs_5, dX4_needs_6, dX4_needs_7, dX4_needs_8, dX4_needs_11, dX4_needs_14, dX4_needs_15, dX4_needs_16, dX4_needs_19, dX4_needs_20, dX4_needs_21, dX4_needs_23, dX4_needs_24, dX4_needs_26, dX4_needs_28, dX4_needs_29, dX4_needs_32, dX4_needs_35, dX4_needs_36, dX4_needs_39, dX4_needs_41, dX4_needs_42, dX4_needs_43, dX4_needs_46, dX4_needs_49, dX4_needs_50, tbX4_g25, tbX4_g33, ca_X4_needs_55, ca_X4_needs_58, ca_X4_needs_48, ab_wp0, ab_wps, ab_stp, ab_g, ab_st, ab_k2, ab_cl, ab_pop, ab_sz, ab_2, ab_ret, ab_f4, ab_tg, ab_I, ab_II, ab_A, ab_Rf, ab_VR, ab_IR, ab_VIR, ab_1, ab_LL, ab_DD, ab_ob, ab_pr, ab_qr, ab_ln, ab_so, ab_vI, ab_vA, ab_vD, ab_vL, ab_v2, ab_c, ab_fit, ab_rv, ab_tsw, ab_lsw, ab_up_eq, Fin.isValue, ab_f0, ab_f1, ab_f2, ab_f3, List.getElem?_cons_zero, List.getElem?_cons_succ, List.set_cons_zero, List.set_cons_succ, List.length_cons, List.length_nil, List.size_toArray, List.head?_cons, List.tail_cons, Option.map_some, cond_true, cond_false, true_and, and_true, false_and, and_false, not_true_eq_false, not_false_eq_true, true_imp_iff, false_imp_iff, if_true, if_false, ite_true, ite_false, ↓reduceIte, Nat.reduceAdd, Nat.reduceEqDiff, Nat.reduceLeDiff, Nat.reduceLT, Nat.reduceBEq, Nat.reduceBNe, Int.reduceAdd, Int.reduceNeg, Int.reduceSub, Int.reduceLE, Int.reduceLT, Int.reduceToNat, Int.reduceEq, Int.reduceMul, Int.cast_ofNat_Int, Nat.zero_add, Nat.add_zero, Nat.le_refl, eq_self, ne_eq, reduceCtorEq, or_true, true_or, or_false, false_or, Bool.or_true, Bool.or_false, Bool.true_or, Bool.false_or, Nat.zero_le, Int.le_refl, Int.ofNat_zero, Int.ofNat_one, Bool.false_eq_true]
        try simp only [ab_in] at hs ⊢
        (repeat' (first | intro _ | refine And.intro ?_ ?_)) <;> (first | exact l0 | contradiction | omega | (exfalso; omega))
    have hb0 := body _ (md_of (md_thr hm 0)) (ab_fr.rf.up md_inL.1)
    dsimp only [mdC] at hb0
    refine hV (fun p => p == 5) 80 _ _ _ _ _ _ ?_
    simp only [c, ae_aload_n, ae_iconst, ae_putfield, dX4_needs_0, dX4_needs_1, dX4_needs_2, tbX4_p29, ca_X4_needs_55, ca_X4_needs_58, ca_X4_needs_48, ab_wp0, ab_wps, ab_stp, ab_g, ab_st, ab_k2, ab_cl, ab_pop, ab_sz, ab_2, ab_ret, ab_f4, ab_tg, ab_I, ab_II, ab_A, ab_Rf, ab_VR, ab_IR, ab_VIR, ab_1, ab_LL, ab_DD, ab_ob, ab_pr, ab_qr, ab_ln, ab_so, ab_vI, ab_vA, ab_vD, ab_vL, ab_v2, ab_c, ab_fit, ab_rv, ab_tsw, ab_lsw, ab_up_eq, Fin.isValue, ab_f0, ab_f1, ab_f2, ab_f3, List.getElem?_cons_zero, List.getElem?_cons_succ, List.set_cons_zero, List.set_cons_succ, List.length_cons, List.length_nil, List.size_toArray, List.head?_cons, List.tail_cons, Option.map_some, cond_true, cond_false, true_and, and_true, false_and, and_false, not_true_eq_false, not_false_eq_true, true_imp_iff, false_imp_iff, if_true, if_false, ite_true, ite_false, ↓reduceIte, Nat.reduceAdd, Nat.reduceEqDiff, Nat.reduceLeDiff, Nat.reduceLT, Nat.reduceBEq, Nat.reduceBNe, Int.reduceAdd, Int.reduceNeg, Int.reduceSub, Int.reduceLE, Int.reduceLT, Int.reduceToNat, Int.reduceEq, Int.reduceMul, Int.cast_ofNat_Int, Nat.zero_add, Nat.add_zero, Nat.le_refl, eq_self, ne_eq, reduceCtorEq, or_true, true_or, or_false, false_or, Bool.or_true, Bool.or_false, Bool.true_or, Bool.false_or, Nat.zero_le, Int.le_refl, Int.ofNat_zero, Int.ofNat_one, Bool.false_eq_true]
    exact hb0
  · exact hT.elim
set_option maxRecDepth 100000 in
theorem con_X4_needs (l : Launch) (D : va_G) (ty : Nat → ClassId) (base : Nat) : ab_Con l D vwCl ty lw_ts base lw_wd yX4_needs cX4_needs 9 (some .int) 3 65 0 0 Tr_X4_needs :=
  ab_con_of (own := RX4) (rt := 1) (tb := tbX4) (ini := false) (ca := ca_X4_needs) (by decide +kernel) rfl (fun h => by cases h) rfl lw_wd_ok wtbX4 lw_ar cm_X4_needs
    (fun p e R s m args below meth c K hcx => by
      obtain ⟨hx, hb, hml, hown, hF, rfl⟩ := hcx
      exact ab_lk_all (ab_all_c (ab_tc_S hx hb hml hown lw_wd_ok hF ⟨rfl, rfl⟩ (con_X4_isSpan l D ty base) (lw_wi (by decide +kernel) (by decide +kernel)) (lw_wi (by decide +kernel) (by decide +kernel)) (lw_wi (by decide +kernel) (by decide +kernel)) (lw_wi (by decide +kernel) (by decide +kernel)) (by decide +kernel) ⟨by decide, by decide⟩) (ab_all_c (ab_tc_V hx hb hml hown lw_wd_ok hF ⟨rfl, rfl⟩ (con_X4_fail l D ty base) rfl (lw_wi (by decide +kernel) (by decide +kernel)) (lw_wi (by decide +kernel) (by decide +kernel)) (lw_wi (by decide +kernel) (by decide +kernel)) (lw_wi (by decide +kernel) (by decide +kernel)) (lw_wi (by decide +kernel) (by decide +kernel)) (by decide +kernel) ⟨by decide, by decide⟩) (ab_all_c (ab_tc_V hx hb hml hown lw_wd_ok hF ⟨rfl, rfl⟩ (con_X4_slateAt l D ty base) rfl (lw_wi (by decide +kernel) (by decide +kernel)) (lw_wi (by decide +kernel) (by decide +kernel)) (lw_wi (by decide +kernel) (by decide +kernel)) (lw_wi (by decide +kernel) (by decide +kernel)) (lw_wi (by decide +kernel) (by decide +kernel)) (by decide +kernel) ⟨by decide, by decide⟩) (ab_all_n)))))
    (by intro as h K ht; unfold Tr_X4_needs at ht; split at ht <;> first | exact ht.elim | exact Nat.le_of_ble_eq_true rfl) (sem_X4_needs base)
noncomputable def Tr_X4_pass : ATr := fun as h K => match as with
  | [.inr (.inl (some a)), .inl days] => ab_so (ab_md h a) fun P => (bareV P.2 ∧ P.2.fnm 0 = 0 ∧ (ab_in days)) ∧ (decide (1 ≤ days ∧ days ≤ 60) = true → ∀ h' v', ab_md h' a = some (P.1, v') → v'.thr = 0 → ab_kp h h' (mdL a P.1) → K (some (.inl (0))) h') ∧ (decide (1 ≤ days ∧ days ≤ 60) = false → ∀ h' v', ab_md h' a = some (P.1, v') → v'.thr = 1 → ab_kp h h' (mdL a P.1) → K (some (.inl (0))) h')
  | _ => False
theorem mo_X4_pass : ab_mo Tr_X4_pass := by
  intro as h K K' hk ht
  unfold Tr_X4_pass at ht ⊢
  split at ht
  · exact ab_so_mo (fun P q => ⟨q.1, fun e h' v' e1 e2 e3 => hk _ _ (q.2.1 e h' v' e1 e2 e3), fun e h' v' e1 e2 e3 => hk _ _ (q.2.2 e h' v' e1 e2 e3)⟩) ht
  · exact ht.elim
def ca_X4_pass : Nat → Option ACS := ab_lk [(36, (2, 0, 3, 0, 0, Tr_X4_isIn)), (58, (0, 4, 2, 0, 0, Tr_X4_fail)), (178, (0, 4, 2, 0, 0, Tr_X4_daysOn))]
theorem ca_X4_pass_36 : ca_X4_pass 36 = some (2, 0, 3, 0, 0, Tr_X4_isIn) := rfl
theorem ca_X4_pass_58 : ca_X4_pass 58 = some (0, 4, 2, 0, 0, Tr_X4_fail) := rfl
theorem ca_X4_pass_178 : ca_X4_pass 178 = some (0, 4, 2, 0, 0, Tr_X4_daysOn) := rfl
theorem cm_X4_pass : ∀ i q, ca_X4_pass i = some q → ab_moq i q := ab_lk_all (ab_all_c mo_X4_isIn (ab_all_c mo_X4_fail (ab_all_c mo_X4_daysOn (ab_all_n))))
set_option maxRecDepth 100000 in
set_option maxHeartbeats 4000000 in
theorem sem_X4_pass (base : Nat) : ab_Sem tbX4 lw_ts base cX4_pass ca_X4_pass 1 3 0 0 (fun as => ab_en as 3) Tr_X4_pass := by
  intro as h K hT V hV
  unfold Tr_X4_pass at hT
  split at hT
  · rename_i a days
    obtain ⟨⟨⟨b0, b1, b2, b3, b4, b5⟩, th, sl, f0, f1, f2, f3, f4, f5⟩, hP, ⟨hb, hs⟩, hK⟩ := ab_so_el hT
    obtain ⟨g0, g1, g2, g3, g4, g5⟩ := id hb
    dsimp only [MV.thr, MV.sl, MV.fst9, MV.fat, MV.frt, MV.ftb, MV.fnm, MV.fmk] at g0 g1 g2 g3 g4 g5 hK hs
    subst g0
    have hm := md_el hP
    obtain ⟨c, c0, c1, c2, c3, c4, c5, -⟩ := id hm
    dsimp only [mdC, MV.thr, MV.sl, MV.fst9, MV.fat, MV.frt, MV.ftb, MV.fnm, MV.fmk] at c c0 c1 c2 c3 c4 c5
    show V 0 [some (.inr (.inl (some a))), some (.inl days), none] [] h 0 0
    obtain ⟨g6, hs⟩ := hs
    obtain ⟨hK0, hK1⟩ := hK
    have body : ∀ h1, ab_md h1 a = some ((b0, b1, b2, b3, b4, b5), (0, 0, f0, f1, f2, f3, f4, f5)) → ab_fr h h1 (mdL a (b0, b1, b2, b3, b4, b5)) → V 5 [some (.inr (.inl (some a))), some (.inl days), none] [] h1 0 0 := by
      intro h1 hP1 fr1
      have hm1 := md_el hP1
      have hb1 : bareV (0, 0, f0, f1, f2, f3, f4, f5) := hb
      obtain ⟨c', c0', c1', c2', c3', c4', c5', -⟩ := id hm1
      dsimp only [mdC, MV.thr, MV.sl, MV.fst9, MV.fat, MV.frt, MV.ftb, MV.fnm, MV.fmk] at c' c0' c1' c2' c3' c4' c5'
      have y0 : decide (1 ≤ days ∧ days ≤ 60) = true → K (some (.inl (0))) h1 := fun e => hK0 e h1 _ hP1 rfl (ab_kp.of_fr fr1)
      have x1 : decide (1 ≤ days ∧ days ≤ 60) = false → ∀ h2, ab_md h2 a = some ((b0, b1, b2, b3, b4, b5), (1, 0, f0, f1, f2, f3, f4, f5)) → ab_fr h1 h2 [a] → K (some (.inl 0)) h2 := fun e h2 w1 w2 => hK1 e h2 _ w1 rfl ((ab_kp.of_fr fr1).tr (ab_kp.of_fr (w2.sub (fun b hb => by rw [List.mem_singleton.mp hb]; exact md_inL.1))))
      cases hd : decide (1 ≤ days ∧ days ≤ 60)
      · refine hV (fun p => p == 21) 80 _ _ _ _ _ _ ?_
        simp only [c', hP1, hb1, hd, bI_in, bI_0, bI_1, bI_t, bI_f, bI_01, Tr_X4_isIn, Tr_X4_fail, ae_aload_n, ae_bipush, ae_iconst, ae_ifCond, ae_iload_n, ae_invokestatic, ae_invokevirtual, ae_ireturn, dX4_pass_5, dX4_pass_6, dX4_pass_7, dX4_pass_9, dX4_pass_12, dX4_pass_15, dX4_pass_16, dX4_pass_17, dX4_pass_20, ca_X4_pass_36, ca_X4_pass_58, ca_X4_pass_178, ab_wp0, ab_wps, ab_stp, ab_g, ab_st, ab_k2, ab_cl, ab_pop, ab_sz, ab_2, ab_ret, ab_f4, ab_tg, ab_I, ab_II, ab_A, ab_Rf, ab_VR, ab_IR, ab_VIR, ab_1, ab_LL, ab_DD, ab_ob, ab_pr, ab_qr, ab_ln, ab_so, ab_vI, ab_vA, ab_vD, ab_vL, ab_v2, ab_c, ab_fit, ab_rv, ab_tsw, ab_lsw, ab_up_eq, Fin.isValue, ab_f0, ab_f1, ab_f2, ab_f3, List.getElem?_cons_zero, List.getElem?_cons_succ, List.set_cons_zero, List.set_cons_succ, List.length_cons, List.length_nil, List.size_toArray, List.head?_cons, List.tail_cons, Option.map_some, cond_true, cond_false, true_and, and_true, false_and, and_false, not_true_eq_false, not_false_eq_true, true_imp_iff, false_imp_iff, if_true, if_false, ite_true, ite_false, ↓reduceIte, Nat.reduceAdd, Nat.reduceEqDiff, Nat.reduceLeDiff, Nat.reduceLT, Nat.reduceBEq, Nat.reduceBNe, Int.reduceAdd, Int.reduceNeg, Int.reduceSub, Int.reduceLE, Int.reduceLT, Int.reduceToNat, Int.reduceEq, Int.reduceMul, Int.cast_ofNat_Int, Nat.zero_add, Nat.add_zero, Nat.le_refl, eq_self, ne_eq, reduceCtorEq, or_true, true_or, or_false, false_or, Bool.or_true, Bool.or_false, Bool.true_or, Bool.false_or, Nat.zero_le, Int.le_refl, Int.ofNat_zero, Int.ofNat_one, Bool.false_eq_true]
        try simp only [ab_in] at hs ⊢
        (repeat' (first | intro _ | refine And.intro ?_ ?_)) <;> (first | exact x1 hd _ (by assumption) (by assumption) | contradiction | omega | (exfalso; omega))
      · have hd2 := of_decide_eq_true hd
        have hq : MV.fnm (0, 0, f0, f1, f2, f3, f4, f5) 0 + days ≤ 1000 := by
          show f4 0 + days ≤ 1000
          omega
        have l33 : ∀ h2 v2, ab_md h2 a = some ((b0, b1, b2, b3, b4, b5), v2) → (bareV v2 ∧ v2.thr = 0 ∧ v2.fnm 0 = f4 0 + days) → ab_fr h1 h2 (mdL a (b0, b1, b2, b3, b4, b5)) → V 33 [some (.inr (.inl (some a))), some (.inl days), some (.inl 0)] [] h2 0 0 := by
          intro h2 v2 w1 w2 w3
          obtain ⟨th1, sl1, p0, p1, p2, p3, p4, p5⟩ := v2
          obtain ⟨⟨o0, o1, o2, o3, o4, o5⟩, q4, -⟩ := w2
          dsimp only [MV.thr, MV.sl, MV.fst9, MV.fat, MV.frt, MV.ftb, MV.fnm, MV.fmk] at o5 q4
          obtain ⟨d', d0', d1', d2', d3', d4', d5', -⟩ := md_el w1
          dsimp only [mdC, MV.thr, MV.sl, MV.fst9, MV.fat, MV.frt, MV.ftb, MV.fnm, MV.fmk] at d' d4'
          have hk := hK0 hd h2 _ w1 q4 ((ab_kp.of_fr fr1).tr (ab_kp.of_fr w3))
          refine hV (fun _ => false) 80 _ _ _ _ _ _ ?_
          simp only [d', d4', o5, ae_aload_n, ae_getfield, ae_iaload, ae_iconst, ae_iload_n, ae_ireturn, ae_isub, dX4_pass_33, dX4_pass_34, dX4_pass_37, dX4_pass_38, dX4_pass_39, dX4_pass_40, dX4_pass_41, tbX4_g22, ca_X4_pass_36, ca_X4_pass_58, ca_X4_pass_178, ab_wp0, ab_wps, ab_stp, ab_g, ab_st, ab_k2, ab_cl, ab_pop, ab_sz, ab_2, ab_ret, ab_f4, ab_tg, ab_I, ab_II, ab_A, ab_Rf, ab_VR, ab_IR, ab_VIR, ab_1, ab_LL, ab_DD, ab_ob, ab_pr, ab_qr, ab_ln, ab_so, ab_vI, ab_vA, ab_vD, ab_vL, ab_v2, ab_c, ab_fit, ab_rv, ab_tsw, ab_lsw, ab_up_eq, Fin.isValue, ab_f0, ab_f1, ab_f2, ab_f3, List.getElem?_cons_zero, List.getElem?_cons_succ, List.set_cons_zero, List.set_cons_succ, List.length_cons, List.length_nil, List.size_toArray, List.head?_cons, List.tail_cons, Option.map_some, cond_true, cond_false, true_and, and_true, false_and, and_false, not_true_eq_false, not_false_eq_true, true_imp_iff, false_imp_iff, if_true, if_false, ite_true, ite_false, ↓reduceIte, Nat.reduceAdd, Nat.reduceEqDiff, Nat.reduceLeDiff, Nat.reduceLT, Nat.reduceBEq, Nat.reduceBNe, Int.reduceAdd, Int.reduceNeg, Int.reduceSub, Int.reduceLE, Int.reduceLT, Int.reduceToNat, Int.reduceEq, Int.reduceMul, Int.cast_ofNat_Int, Nat.zero_add, Nat.add_zero, Nat.le_refl, eq_self, ne_eq, reduceCtorEq, or_true, true_or, or_false, false_or, Bool.or_true, Bool.or_false, Bool.true_or, Bool.false_or, Nat.zero_le, Int.le_refl, Int.ofNat_zero, Int.ofNat_one, Bool.false_eq_true]
          (repeat' (first | intro _ | refine And.intro ?_ ?_)) <;> (first | exact hk | contradiction | omega | (exfalso; omega))
        refine hV (fun p => p == 33) 80 _ _ _ _ _ _ ?_
        simp only [c', hP1, hb1, hd, c4', g5, bI_in, bI_0, bI_1, bI_t, bI_f, bI_01, Tr_X4_isIn, Tr_X4_daysOn, ae_aload_n, ae_bipush, ae_getfield, ae_iaload, ae_iconst, ae_ifCond, ae_iload_n, ae_invokestatic, ae_invokevirtual, ae_ireturn, ae_istore_n, dX4_pass_5, dX4_pass_6, dX4_pass_7, dX4_pass_9, dX4_pass_12, dX4_pass_15, dX4_pass_16, dX4_pass_17, dX4_pass_20, dX4_pass_21, dX4_pass_22, dX4_pass_25, dX4_pass_26, dX4_pass_27, dX4_pass_28, dX4_pass_29, dX4_pass_30, tbX4_g22, ca_X4_pass_36, ca_X4_pass_58, ca_X4_pass_178, ab_wp0, ab_wps, ab_stp, ab_g, ab_st, ab_k2, ab_cl, ab_pop, ab_sz, ab_2, ab_ret, ab_f4, ab_tg, ab_I, ab_II, ab_A, ab_Rf, ab_VR, ab_IR, ab_VIR, ab_1, ab_LL, ab_DD, ab_ob, ab_pr, ab_qr, ab_ln, ab_so, ab_vI, ab_vA, ab_vD, ab_vL, ab_v2, ab_c, ab_fit, ab_rv, ab_tsw, ab_lsw, ab_up_eq, Fin.isValue, ab_f0, ab_f1, ab_f2, ab_f3, List.getElem?_cons_zero, List.getElem?_cons_succ, List.set_cons_zero, List.set_cons_succ, List.length_cons, List.length_nil, List.size_toArray, List.head?_cons, List.tail_cons, Option.map_some, cond_true, cond_false, true_and, and_true, false_and, and_false, not_true_eq_false, not_false_eq_true, true_imp_iff, false_imp_iff, if_true, if_false, ite_true, ite_false, ↓reduceIte, Nat.reduceAdd, Nat.reduceEqDiff, Nat.reduceLeDiff, Nat.reduceLT, Nat.reduceBEq, Nat.reduceBNe, Int.reduceAdd, Int.reduceNeg, Int.reduceSub, Int.reduceLE, Int.reduceLT, Int.reduceToNat, Int.reduceEq, Int.reduceMul, Int.cast_ofNat_Int, Nat.zero_add, Nat.add_zero, Nat.le_refl, eq_self, ne_eq, reduceCtorEq, or_true, true_or, or_false, false_or, Bool.or_true, Bool.or_false, Bool.true_or, Bool.false_or, Nat.zero_le, Int.le_refl, Int.ofNat_zero, Int.ofNat_one, Bool.false_eq_true]
        try simp only [ab_in] at hs ⊢
        (repeat' (first | intro _ | refine And.intro ?_ ?_)) <;> (first | exact hq | exact l33 _ _ (by assumption) (by assumption) (by assumption) | contradiction | omega | (exfalso; omega))
    have hb0 := body _ (md_of (md_thr hm 0)) (ab_fr.rf.up md_inL.1)
    dsimp only [mdC] at hb0
    refine hV (fun p => p == 5) 80 _ _ _ _ _ _ ?_
    simp only [c, ae_aload_n, ae_iconst, ae_putfield, dX4_pass_0, dX4_pass_1, dX4_pass_2, tbX4_p29, ca_X4_pass_36, ca_X4_pass_58, ca_X4_pass_178, ab_wp0, ab_wps, ab_stp, ab_g, ab_st, ab_k2, ab_cl, ab_pop, ab_sz, ab_2, ab_ret, ab_f4, ab_tg, ab_I, ab_II, ab_A, ab_Rf, ab_VR, ab_IR, ab_VIR, ab_1, ab_LL, ab_DD, ab_ob, ab_pr, ab_qr, ab_ln, ab_so, ab_vI, ab_vA, ab_vD, ab_vL, ab_v2, ab_c, ab_fit, ab_rv, ab_tsw, ab_lsw, ab_up_eq, Fin.isValue, ab_f0, ab_f1, ab_f2, ab_f3, List.getElem?_cons_zero, List.getElem?_cons_succ, List.set_cons_zero, List.set_cons_succ, List.length_cons, List.length_nil, List.size_toArray, List.head?_cons, List.tail_cons, Option.map_some, cond_true, cond_false, true_and, and_true, false_and, and_false, not_true_eq_false, not_false_eq_true, true_imp_iff, false_imp_iff, if_true, if_false, ite_true, ite_false, ↓reduceIte, Nat.reduceAdd, Nat.reduceEqDiff, Nat.reduceLeDiff, Nat.reduceLT, Nat.reduceBEq, Nat.reduceBNe, Int.reduceAdd, Int.reduceNeg, Int.reduceSub, Int.reduceLE, Int.reduceLT, Int.reduceToNat, Int.reduceEq, Int.reduceMul, Int.cast_ofNat_Int, Nat.zero_add, Nat.add_zero, Nat.le_refl, eq_self, ne_eq, reduceCtorEq, or_true, true_or, or_false, false_or, Bool.or_true, Bool.or_false, Bool.true_or, Bool.false_or, Nat.zero_le, Int.le_refl, Int.ofNat_zero, Int.ofNat_one, Bool.false_eq_true]
    exact hb0
  · exact hT.elim
set_option maxRecDepth 100000 in
theorem con_X4_pass (l : Launch) (D : va_G) (ty : Nat → ClassId) (base : Nat) : ab_Con l D vwCl ty lw_ts base lw_wd yX4_pass cX4_pass 3 (some .int) 9 199 0 0 Tr_X4_pass :=
  ab_con_of (own := RX4) (rt := 1) (tb := tbX4) (ini := false) (ca := ca_X4_pass) (by decide +kernel) rfl (fun h => by cases h) rfl lw_wd_ok wtbX4 lw_ar cm_X4_pass
    (fun p e R s m args below meth c K hcx => by
      obtain ⟨hx, hb, hml, hown, hF, rfl⟩ := hcx
      exact ab_lk_all (ab_all_c (ab_tc_S hx hb hml hown lw_wd_ok hF ⟨rfl, rfl⟩ (con_X4_isIn l D ty base) (lw_wi (by decide +kernel) (by decide +kernel)) (lw_wi (by decide +kernel) (by decide +kernel)) (lw_wi (by decide +kernel) (by decide +kernel)) (lw_wi (by decide +kernel) (by decide +kernel)) (by decide +kernel) ⟨by decide, by decide⟩) (ab_all_c (ab_tc_V hx hb hml hown lw_wd_ok hF ⟨rfl, rfl⟩ (con_X4_fail l D ty base) rfl (lw_wi (by decide +kernel) (by decide +kernel)) (lw_wi (by decide +kernel) (by decide +kernel)) (lw_wi (by decide +kernel) (by decide +kernel)) (lw_wi (by decide +kernel) (by decide +kernel)) (lw_wi (by decide +kernel) (by decide +kernel)) (by decide +kernel) ⟨by decide, by decide⟩) (ab_all_c (ab_tc_V hx hb hml hown lw_wd_ok hF ⟨rfl, rfl⟩ (con_X4_daysOn l D ty base) rfl (lw_wi (by decide +kernel) (by decide +kernel)) (lw_wi (by decide +kernel) (by decide +kernel)) (lw_wi (by decide +kernel) (by decide +kernel)) (lw_wi (by decide +kernel) (by decide +kernel)) (lw_wi (by decide +kernel) (by decide +kernel)) (by decide +kernel) ⟨by decide, by decide⟩) (ab_all_n)))))
    (by intro as h K ht; unfold Tr_X4_pass at ht; split at ht <;> first | exact ht.elim | exact Nat.le_of_ble_eq_true rfl) (sem_X4_pass base)
noncomputable def Tr_X4_foresee : ATr := fun as h K => match as with
  | [.inr (.inl (some a)), .inl days, .inl what] => ab_so (ab_md h a) fun P => (bareV P.2 ∧ P.2.fnm 0 = 0 ∧ (ab_in days ∧ ab_in what)) ∧ (decide (1 ≤ days ∧ days ≤ 60) = true ∧ isUpToF what 2 = true → ∀ h' v', ab_md h' a = some (P.1, v') → v'.thr = 0 → ab_kp h h' (mdL a P.1) → K (some (.inl (0))) h') ∧ (decide (1 ≤ days ∧ days ≤ 60) = false → ∀ h' v', ab_md h' a = some (P.1, v') → v'.thr = 1 → ab_kp h h' (mdL a P.1) → K (some (.inl (0))) h') ∧ (decide (1 ≤ days ∧ days ≤ 60) = true ∧ isUpToF what 2 = false → ∀ h' v', ab_md h' a = some (P.1, v') → v'.thr = 2 → ab_kp h h' (mdL a P.1) → K (some (.inl (0))) h')
  | _ => False
theorem mo_X4_foresee : ab_mo Tr_X4_foresee := by
  intro as h K K' hk ht
  unfold Tr_X4_foresee at ht ⊢
  split at ht
  · exact ab_so_mo (fun P q => ⟨q.1, fun e h' v' e1 e2 e3 => hk _ _ (q.2.1 e h' v' e1 e2 e3), fun e h' v' e1 e2 e3 => hk _ _ (q.2.2.1 e h' v' e1 e2 e3), fun e h' v' e1 e2 e3 => hk _ _ (q.2.2.2 e h' v' e1 e2 e3)⟩) ht
  · exact ht.elim
def ca_X4_foresee : Nat → Option ACS := ab_lk [(36, (2, 0, 3, 0, 0, Tr_X4_isIn)), (58, (0, 4, 2, 0, 0, Tr_X4_fail)), (140, (0, 4, 1, 5, 4804, Tr_X4_kept)), (178, (0, 4, 2, 0, 0, Tr_X4_daysOn)), (62, (0, 4, 1, 0, 0, Tr_X4_onRoof)), (115, (0, 4, 1, 0, 0, Tr_X4_cracked)), (121, (0, 4, 1, 0, 0, Tr_X4_allRot)), (147, (0, 4, 2, 1, 4, Tr_X4_bringBack))]
theorem ca_X4_foresee_36 : ca_X4_foresee 36 = some (2, 0, 3, 0, 0, Tr_X4_isIn) := rfl
theorem ca_X4_foresee_58 : ca_X4_foresee 58 = some (0, 4, 2, 0, 0, Tr_X4_fail) := rfl
theorem ca_X4_foresee_140 : ca_X4_foresee 140 = some (0, 4, 1, 5, 4804, Tr_X4_kept) := rfl
theorem ca_X4_foresee_178 : ca_X4_foresee 178 = some (0, 4, 2, 0, 0, Tr_X4_daysOn) := rfl
theorem ca_X4_foresee_62 : ca_X4_foresee 62 = some (0, 4, 1, 0, 0, Tr_X4_onRoof) := rfl
theorem ca_X4_foresee_115 : ca_X4_foresee 115 = some (0, 4, 1, 0, 0, Tr_X4_cracked) := rfl
theorem ca_X4_foresee_121 : ca_X4_foresee 121 = some (0, 4, 1, 0, 0, Tr_X4_allRot) := rfl
theorem ca_X4_foresee_147 : ca_X4_foresee 147 = some (0, 4, 2, 1, 4, Tr_X4_bringBack) := rfl
theorem cm_X4_foresee : ∀ i q, ca_X4_foresee i = some q → ab_moq i q := ab_lk_all (ab_all_c mo_X4_isIn (ab_all_c mo_X4_fail (ab_all_c mo_X4_kept (ab_all_c mo_X4_daysOn (ab_all_c mo_X4_onRoof (ab_all_c mo_X4_cracked (ab_all_c mo_X4_allRot (ab_all_c mo_X4_bringBack (ab_all_n)))))))))
set_option maxRecDepth 100000 in
set_option maxHeartbeats 4000000 in
theorem sem_X4_foresee (base : Nat) : ab_Sem tbX4 lw_ts base cX4_foresee ca_X4_foresee 1 5 6 4808 (fun as => ab_en as 5) Tr_X4_foresee := by
  intro as h K hT V hV
  unfold Tr_X4_foresee at hT
  split at hT
  · rename_i a days what
    obtain ⟨⟨⟨b0, b1, b2, b3, b4, b5⟩, th, sl, f0, f1, f2, f3, f4, f5⟩, hP, ⟨hb, hs⟩, hK⟩ := ab_so_el hT
    obtain ⟨g0, g1, g2, g3, g4, g5⟩ := id hb
    dsimp only [MV.thr, MV.sl, MV.fst9, MV.fat, MV.frt, MV.ftb, MV.fnm, MV.fmk] at g0 g1 g2 g3 g4 g5 hK hs
    subst g0
    have hm := md_el hP
    obtain ⟨c, c0, c1, c2, c3, c4, c5, -⟩ := id hm
    dsimp only [mdC, MV.thr, MV.sl, MV.fst9, MV.fat, MV.frt, MV.ftb, MV.fnm, MV.fmk] at c c0 c1 c2 c3 c4 c5
    show V 0 [some (.inr (.inl (some a))), some (.inl days), some (.inl what), none, none] [] h 0 0
    obtain ⟨g6, hs⟩ := hs
    obtain ⟨hK0, hK1, hK2⟩ := hK
    have body : ∀ h1, ab_md h1 a = some ((b0, b1, b2, b3, b4, b5), (0, 0, f0, f1, f2, f3, f4, f5)) → ab_fr h h1 (mdL a (b0, b1, b2, b3, b4, b5)) → V 5 [some (.inr (.inl (some a))), some (.inl days), some (.inl what), none, none] [] h1 0 0 := by
      intro h1 hP1 fr1
      have hm1 := md_el hP1
      have hb1 : bareV (0, 0, f0, f1, f2, f3, f4, f5) := hb
      obtain ⟨c', c0', c1', c2', c3', c4', c5', -⟩ := id hm1
      dsimp only [mdC, MV.thr, MV.sl, MV.fst9, MV.fat, MV.frt, MV.ftb, MV.fnm, MV.fmk] at c' c0' c1' c2' c3' c4' c5'
      have y0 : decide (1 ≤ days ∧ days ≤ 60) = true ∧ isUpToF what 2 = true → K (some (.inl (0))) h1 := fun e => hK0 e h1 _ hP1 rfl (ab_kp.of_fr fr1)
      have x1 : decide (1 ≤ days ∧ days ≤ 60) = false → ∀ h2, ab_md h2 a = some ((b0, b1, b2, b3, b4, b5), (1, 0, f0, f1, f2, f3, f4, f5)) → ab_fr h1 h2 [a] → K (some (.inl 0)) h2 := fun e h2 w1 w2 => hK1 e h2 _ w1 rfl ((ab_kp.of_fr fr1).tr (ab_kp.of_fr (w2.sub (fun b hb => by rw [List.mem_singleton.mp hb]; exact md_inL.1))))
      have x2 : decide (1 ≤ days ∧ days ≤ 60) = true ∧ isUpToF what 2 = false → ∀ h2, ab_md h2 a = some ((b0, b1, b2, b3, b4, b5), (2, 0, f0, f1, f2, f3, f4, f5)) → ab_fr h1 h2 [a] → K (some (.inl 0)) h2 := fun e h2 w1 w2 => hK2 e h2 _ w1 rfl ((ab_kp.of_fr fr1).tr (ab_kp.of_fr (w2.sub (fun b hb => by rw [List.mem_singleton.mp hb]; exact md_inL.1))))
      cases hd : decide (1 ≤ days ∧ days ≤ 60)
      · refine hV (fun p => p == 21) 80 _ _ _ _ _ _ ?_
        simp only [c', hP1, hb1, hd, bI_in, bI_0, bI_1, bI_t, bI_f, bI_01, Tr_X4_isIn, Tr_X4_fail, ae_aload_n, ae_bipush, ae_iconst, ae_ifCond, ae_iload_n, ae_invokestatic, ae_invokevirtual, ae_ireturn, dX4_foresee_5, dX4_foresee_6, dX4_foresee_7, dX4_foresee_9, dX4_foresee_12, dX4_foresee_15, dX4_foresee_16, dX4_foresee_17, dX4_foresee_20, ca_X4_foresee_36, ca_X4_foresee_58, ca_X4_foresee_140, ca_X4_foresee_178, ca_X4_foresee_62, ca_X4_foresee_115, ca_X4_foresee_121, ca_X4_foresee_147, ab_wp0, ab_wps, ab_stp, ab_g, ab_st, ab_k2, ab_cl, ab_pop, ab_sz, ab_2, ab_ret, ab_f4, ab_tg, ab_I, ab_II, ab_A, ab_Rf, ab_VR, ab_IR, ab_VIR, ab_1, ab_LL, ab_DD, ab_ob, ab_pr, ab_qr, ab_ln, ab_so, ab_vI, ab_vA, ab_vD, ab_vL, ab_v2, ab_c, ab_fit, ab_rv, ab_tsw, ab_lsw, ab_up_eq, Fin.isValue, ab_f0, ab_f1, ab_f2, ab_f3, List.getElem?_cons_zero, List.getElem?_cons_succ, List.set_cons_zero, List.set_cons_succ, List.length_cons, List.length_nil, List.size_toArray, List.head?_cons, List.tail_cons, Option.map_some, cond_true, cond_false, true_and, and_true, false_and, and_false, not_true_eq_false, not_false_eq_true, true_imp_iff, false_imp_iff, if_true, if_false, ite_true, ite_false, ↓reduceIte, Nat.reduceAdd, Nat.reduceEqDiff, Nat.reduceLeDiff, Nat.reduceLT, Nat.reduceBEq, Nat.reduceBNe, Int.reduceAdd, Int.reduceNeg, Int.reduceSub, Int.reduceLE, Int.reduceLT, Int.reduceToNat, Int.reduceEq, Int.reduceMul, Int.cast_ofNat_Int, Nat.zero_add, Nat.add_zero, Nat.le_refl, eq_self, ne_eq, reduceCtorEq, or_true, true_or, or_false, false_or, Bool.or_true, Bool.or_false, Bool.true_or, Bool.false_or, Nat.zero_le, Int.le_refl, Int.ofNat_zero, Int.ofNat_one, Bool.false_eq_true]
        try simp only [ab_in] at hs ⊢
        (repeat' (first | intro _ | refine And.intro ?_ ?_)) <;> (first | exact x1 hd _ (by assumption) (by assumption) | contradiction | omega | (exfalso; omega))
      · cases hw : isUpToF what 2
        · have hw2 : decide (0 ≤ what ∧ what ≤ 2) = false := hw
          refine hV (fun p => p == 36) 80 _ _ _ _ _ _ ?_
          simp only [c', hP1, hb1, hd, hw2, bI_in, bI_0, bI_1, bI_t, bI_f, bI_01, Tr_X4_isIn, Tr_X4_fail, ae_aload_n, ae_bipush, ae_iconst, ae_ifCond, ae_iload_n, ae_invokestatic, ae_invokevirtual, ae_ireturn, dX4_foresee_5, dX4_foresee_6, dX4_foresee_7, dX4_foresee_9, dX4_foresee_12, dX4_foresee_15, dX4_foresee_16, dX4_foresee_17, dX4_foresee_20, dX4_foresee_21, dX4_foresee_22, dX4_foresee_23, dX4_foresee_24, dX4_foresee_27, dX4_foresee_30, dX4_foresee_31, dX4_foresee_32, dX4_foresee_35, ca_X4_foresee_36, ca_X4_foresee_58, ca_X4_foresee_140, ca_X4_foresee_178, ca_X4_foresee_62, ca_X4_foresee_115, ca_X4_foresee_121, ca_X4_foresee_147, ab_wp0, ab_wps, ab_stp, ab_g, ab_st, ab_k2, ab_cl, ab_pop, ab_sz, ab_2, ab_ret, ab_f4, ab_tg, ab_I, ab_II, ab_A, ab_Rf, ab_VR, ab_IR, ab_VIR, ab_1, ab_LL, ab_DD, ab_ob, ab_pr, ab_qr, ab_ln, ab_so, ab_vI, ab_vA, ab_vD, ab_vL, ab_v2, ab_c, ab_fit, ab_rv, ab_tsw, ab_lsw, ab_up_eq, Fin.isValue, ab_f0, ab_f1, ab_f2, ab_f3, List.getElem?_cons_zero, List.getElem?_cons_succ, List.set_cons_zero, List.set_cons_succ, List.length_cons, List.length_nil, List.size_toArray, List.head?_cons, List.tail_cons, Option.map_some, cond_true, cond_false, true_and, and_true, false_and, and_false, not_true_eq_false, not_false_eq_true, true_imp_iff, false_imp_iff, if_true, if_false, ite_true, ite_false, ↓reduceIte, Nat.reduceAdd, Nat.reduceEqDiff, Nat.reduceLeDiff, Nat.reduceLT, Nat.reduceBEq, Nat.reduceBNe, Int.reduceAdd, Int.reduceNeg, Int.reduceSub, Int.reduceLE, Int.reduceLT, Int.reduceToNat, Int.reduceEq, Int.reduceMul, Int.cast_ofNat_Int, Nat.zero_add, Nat.add_zero, Nat.le_refl, eq_self, ne_eq, reduceCtorEq, or_true, true_or, or_false, false_or, Bool.or_true, Bool.or_false, Bool.true_or, Bool.false_or, Nat.zero_le, Int.le_refl, Int.ofNat_zero, Int.ofNat_one, Bool.false_eq_true]
          try simp only [ab_in] at hs ⊢
          (repeat' (first | intro _ | refine And.intro ?_ ?_)) <;> (first | exact x2 ⟨hd, hw⟩ _ (by assumption) (by assumption) | contradiction | omega | (exfalso; omega))
        · have hw2 : decide (0 ≤ what ∧ what ≤ 2) = true := hw
          have hd3 := of_decide_eq_true hd
          have hw3 := of_decide_eq_true hw2
          have hq : MV.fnm (0, 0, f0, f1, f2, f3, f4, f5) 0 + days ≤ 1000 := by
            show f4 0 + days ≤ 1000
            omega
          have l46 : ∀ (q : Nat) (h3 : AH) (v3 : MV), ab_kp h1 h3 (mdL a (b0, b1, b2, b3, b4, b5)) → kpAt h3 q (mdL a (b0, b1, b2, b3, b4, b5)) (0, 0, f0, f1, f2, f3, f4, f5) → ab_md h3 a = some ((b0, b1, b2, b3, b4, b5), v3) → (bareV v3 ∧ v3.thr = 0) → V 46 [some (.inr (.inl (some a))), some (.inl days), some (.inl what), some (.inr (.inl (some q))), none] [] h3 5 4804 := by
            intro q h3 v3 hkp hkq q1 q2
            obtain ⟨th1, sl1, p0, p1, p2, p3, p4, p5⟩ := v3
            obtain ⟨hb3, q4⟩ := q2
            dsimp only [MV.thr] at q4
            subst q4
            have hsl3 : sl1 = 0 := hb3.1
            subst hsl3
            obtain ⟨d', d0', d1', d2', d3', d4', d5', -⟩ := md_el q1
            dsimp only [mdC, MV.thr, MV.sl, MV.fst9, MV.fat, MV.frt, MV.ftb, MV.fnm, MV.fmk] at d'
            have hcond : bareV (0, 0, p0, p1, p2, p3, p4, p5) ∧ ∃ v0, bareV v0 ∧ kpAt h3 q (mdL a (b0, b1, b2, b3, b4, b5)) v0 := ⟨hb3, _, hb1, hkq⟩
            have hk : ∀ h4 v4, ab_md h4 a = some ((b0, b1, b2, b3, b4, b5), v4) → (bareV v4 ∧ v4.thr = 0) → ab_kp h3 h4 (mdL a (b0, b1, b2, b3, b4, b5)) → K (some (.inl 0)) h4 := fun h4 v4 y1 y2 y3 => hK0 ⟨hd, hw⟩ h4 v4 y1 y2.2 ((ab_kp.of_fr fr1).tr (hkp.tr y3))
            refine hV (fun _ => false) 80 _ _ _ _ _ _ ?_
            simp only [d', q1, hb3, bI_in, bI_0, bI_1, bI_t, bI_f, bI_01, Tr_X4_onRoof, Tr_X4_cracked, Tr_X4_allRot, Tr_X4_bringBack, ae_aload_n, ae_goto, ae_iconst, ae_ifCond, ae_if_icmp, ae_iload, ae_iload_n, ae_invokevirtual, ae_ireturn, ae_istore, dX4_foresee_46, dX4_foresee_47, dX4_foresee_50, dX4_foresee_51, dX4_foresee_54, dX4_foresee_57, dX4_foresee_58, dX4_foresee_59, dX4_foresee_62, dX4_foresee_63, dX4_foresee_66, dX4_foresee_69, dX4_foresee_70, dX4_foresee_73, dX4_foresee_75, dX4_foresee_76, dX4_foresee_77, dX4_foresee_80, dX4_foresee_82, ca_X4_foresee_36, ca_X4_foresee_58, ca_X4_foresee_140, ca_X4_foresee_178, ca_X4_foresee_62, ca_X4_foresee_115, ca_X4_foresee_121, ca_X4_foresee_147, ab_wp0, ab_wps, ab_stp, ab_g, ab_st, ab_k2, ab_cl, ab_pop, ab_sz, ab_2, ab_ret, ab_f4, ab_tg, ab_I, ab_II, ab_A, ab_Rf, ab_VR, ab_IR, ab_VIR, ab_1, ab_LL, ab_DD, ab_ob, ab_pr, ab_qr, ab_ln, ab_so, ab_vI, ab_vA, ab_vD, ab_vL, ab_v2, ab_c, ab_fit, ab_rv, ab_tsw, ab_lsw, ab_up_eq, Fin.isValue, ab_f0, ab_f1, ab_f2, ab_f3, List.getElem?_cons_zero, List.getElem?_cons_succ, List.set_cons_zero, List.set_cons_succ, List.length_cons, List.length_nil, List.size_toArray, List.head?_cons, List.tail_cons, Option.map_some, cond_true, cond_false, true_and, and_true, false_and, and_false, not_true_eq_false, not_false_eq_true, true_imp_iff, false_imp_iff, if_true, if_false, ite_true, ite_false, ↓reduceIte, Nat.reduceAdd, Nat.reduceEqDiff, Nat.reduceLeDiff, Nat.reduceLT, Nat.reduceBEq, Nat.reduceBNe, Int.reduceAdd, Int.reduceNeg, Int.reduceSub, Int.reduceLE, Int.reduceLT, Int.reduceToNat, Int.reduceEq, Int.reduceMul, Int.cast_ofNat_Int, Nat.zero_add, Nat.add_zero, Nat.le_refl, eq_self, ne_eq, reduceCtorEq, or_true, true_or, or_false, false_or, Bool.or_true, Bool.or_false, Bool.true_or, Bool.false_or, Nat.zero_le, Int.le_refl, Int.ofNat_zero, Int.ofNat_one, Bool.false_eq_true]
            try simp only [ab_in]
            (repeat' (first | intro _ | refine And.intro ?_ ?_)) <;> (first | exact hcond.2 | exact hk _ _ (by assumption) (by assumption) (by assumption) | contradiction | omega | (exfalso; omega))
          have l40 : ∀ (h2 : AH) (q : Nat), kpAt h2 q (mdL a (b0, b1, b2, b3, b4, b5)) (0, 0, f0, f1, f2, f3, f4, f5) → h1 q = none → (∀ b, h1 b ≠ none → h2 b = h1 b) → V 40 [some (.inr (.inl (some a))), some (.inl days), some (.inl what), none, none] [.inr (.inl (some q))] h2 5 4804 := by
            intro h2 q y1 y2 y3
            have hm2 := md_kp0 hm1 y3
            have hP2 := md_of hm2
            obtain ⟨d', -⟩ := id hm2
            dsimp only [mdC, MV.thr, MV.sl, MV.fst9, MV.fat, MV.frt, MV.ftb, MV.fnm, MV.fmk] at d'
            have l46' : ∀ h3 v3, ab_md h3 a = some ((b0, b1, b2, b3, b4, b5), v3) → (bareV v3 ∧ v3.thr = 0 ∧ v3.fnm 0 = f4 0 + days) → ab_fr h2 h3 (mdL a (b0, b1, b2, b3, b4, b5)) → V 46 [some (.inr (.inl (some a))), some (.inl days), some (.inl what), some (.inr (.inl (some q))), none] [] h3 5 4804 := fun h3 v3 z1 z2 z3 =>
              l46 q h3 v3 (ab_kp.tr (fun b hb _ => y3 b hb) (ab_kp.of_fr z3)) (y1.fr (ab_kp.of_fr z3) (fun b hb => hb)) z1 ⟨z2.1, z2.2.1⟩
            refine hV (fun p => p == 46) 80 _ _ _ _ _ _ ?_
            simp only [d', hP2, hb1, bI_in, bI_0, bI_1, bI_t, bI_f, bI_01, Tr_X4_daysOn, ae_aload_n, ae_astore_n, ae_iload_n, ae_invokevirtual, dX4_foresee_40, dX4_foresee_41, dX4_foresee_42, dX4_foresee_43, ca_X4_foresee_36, ca_X4_foresee_58, ca_X4_foresee_140, ca_X4_foresee_178, ca_X4_foresee_62, ca_X4_foresee_115, ca_X4_foresee_121, ca_X4_foresee_147, ab_wp0, ab_wps, ab_stp, ab_g, ab_st, ab_k2, ab_cl, ab_pop, ab_sz, ab_2, ab_ret, ab_f4, ab_tg, ab_I, ab_II, ab_A, ab_Rf, ab_VR, ab_IR, ab_VIR, ab_1, ab_LL, ab_DD, ab_ob, ab_pr, ab_qr, ab_ln, ab_so, ab_vI, ab_vA, ab_vD, ab_vL, ab_v2, ab_c, ab_fit, ab_rv, ab_tsw, ab_lsw, ab_up_eq, Fin.isValue, ab_f0, ab_f1, ab_f2, ab_f3, List.getElem?_cons_zero, List.getElem?_cons_succ, List.set_cons_zero, List.set_cons_succ, List.length_cons, List.length_nil, List.size_toArray, List.head?_cons, List.tail_cons, Option.map_some, cond_true, cond_false, true_and, and_true, false_and, and_false, not_true_eq_false, not_false_eq_true, true_imp_iff, false_imp_iff, if_true, if_false, ite_true, ite_false, ↓reduceIte, Nat.reduceAdd, Nat.reduceEqDiff, Nat.reduceLeDiff, Nat.reduceLT, Nat.reduceBEq, Nat.reduceBNe, Int.reduceAdd, Int.reduceNeg, Int.reduceSub, Int.reduceLE, Int.reduceLT, Int.reduceToNat, Int.reduceEq, Int.reduceMul, Int.cast_ofNat_Int, Nat.zero_add, Nat.add_zero, Nat.le_refl, eq_self, ne_eq, reduceCtorEq, or_true, true_or, or_false, false_or, Bool.or_true, Bool.or_false, Bool.true_or, Bool.false_or, Nat.zero_le, Int.le_refl, Int.ofNat_zero, Int.ofNat_one, Bool.false_eq_true]
            try simp only [ab_in]
            (repeat' (first | intro _ | refine And.intro ?_ ?_)) <;> (first | exact hq | exact l46' _ _ (by assumption) (by assumption) (by assumption) | contradiction | omega | (exfalso; omega))
          refine hV (fun p => p == 40) 80 _ _ _ _ _ _ ?_
          simp only [c', hP1, hb1, hd, hw2, bI_in, bI_0, bI_1, bI_t, bI_f, bI_01, Tr_X4_isIn, Tr_X4_kept, ae_aload_n, ae_bipush, ae_iconst, ae_ifCond, ae_iload_n, ae_invokestatic, ae_invokevirtual, ae_ireturn, dX4_foresee_5, dX4_foresee_6, dX4_foresee_7, dX4_foresee_9, dX4_foresee_12, dX4_foresee_15, dX4_foresee_16, dX4_foresee_17, dX4_foresee_20, dX4_foresee_21, dX4_foresee_22, dX4_foresee_23, dX4_foresee_24, dX4_foresee_27, dX4_foresee_30, dX4_foresee_31, dX4_foresee_32, dX4_foresee_35, dX4_foresee_36, dX4_foresee_37, ca_X4_foresee_36, ca_X4_foresee_58, ca_X4_foresee_140, ca_X4_foresee_178, ca_X4_foresee_62, ca_X4_foresee_115, ca_X4_foresee_121, ca_X4_foresee_147, ab_wp0, ab_wps, ab_stp, ab_g, ab_st, ab_k2, ab_cl, ab_pop, ab_sz, ab_2, ab_ret, ab_f4, ab_tg, ab_I, ab_II, ab_A, ab_Rf, ab_VR, ab_IR, ab_VIR, ab_1, ab_LL, ab_DD, ab_ob, ab_pr, ab_qr, ab_ln, ab_so, ab_vI, ab_vA, ab_vD, ab_vL, ab_v2, ab_c, ab_fit, ab_rv, ab_tsw, ab_lsw, ab_up_eq, Fin.isValue, ab_f0, ab_f1, ab_f2, ab_f3, List.getElem?_cons_zero, List.getElem?_cons_succ, List.set_cons_zero, List.set_cons_succ, List.length_cons, List.length_nil, List.size_toArray, List.head?_cons, List.tail_cons, Option.map_some, cond_true, cond_false, true_and, and_true, false_and, and_false, not_true_eq_false, not_false_eq_true, true_imp_iff, false_imp_iff, if_true, if_false, ite_true, ite_false, ↓reduceIte, Nat.reduceAdd, Nat.reduceEqDiff, Nat.reduceLeDiff, Nat.reduceLT, Nat.reduceBEq, Nat.reduceBNe, Int.reduceAdd, Int.reduceNeg, Int.reduceSub, Int.reduceLE, Int.reduceLT, Int.reduceToNat, Int.reduceEq, Int.reduceMul, Int.cast_ofNat_Int, Nat.zero_add, Nat.add_zero, Nat.le_refl, eq_self, ne_eq, reduceCtorEq, or_true, true_or, or_false, false_or, Bool.or_true, Bool.or_false, Bool.true_or, Bool.false_or, Nat.zero_le, Int.le_refl, Int.ofNat_zero, Int.ofNat_one, Bool.false_eq_true]
          try simp only [ab_in] at hs ⊢
          (repeat' (first | intro _ | refine And.intro ?_ ?_)) <;> (first | exact l40 _ _ (by assumption) (by assumption) (by assumption) | contradiction | omega | (exfalso; omega))
    have hb0 := body _ (md_of (md_thr hm 0)) (ab_fr.rf.up md_inL.1)
    dsimp only [mdC] at hb0
    refine hV (fun p => p == 5) 80 _ _ _ _ _ _ ?_
    simp only [c, ae_aload_n, ae_iconst, ae_putfield, dX4_foresee_0, dX4_foresee_1, dX4_foresee_2, tbX4_p29, ca_X4_foresee_36, ca_X4_foresee_58, ca_X4_foresee_140, ca_X4_foresee_178, ca_X4_foresee_62, ca_X4_foresee_115, ca_X4_foresee_121, ca_X4_foresee_147, ab_wp0, ab_wps, ab_stp, ab_g, ab_st, ab_k2, ab_cl, ab_pop, ab_sz, ab_2, ab_ret, ab_f4, ab_tg, ab_I, ab_II, ab_A, ab_Rf, ab_VR, ab_IR, ab_VIR, ab_1, ab_LL, ab_DD, ab_ob, ab_pr, ab_qr, ab_ln, ab_so, ab_vI, ab_vA, ab_vD, ab_vL, ab_v2, ab_c, ab_fit, ab_rv, ab_tsw, ab_lsw, ab_up_eq, Fin.isValue, ab_f0, ab_f1, ab_f2, ab_f3, List.getElem?_cons_zero, List.getElem?_cons_succ, List.set_cons_zero, List.set_cons_succ, List.length_cons, List.length_nil, List.size_toArray, List.head?_cons, List.tail_cons, Option.map_some, cond_true, cond_false, true_and, and_true, false_and, and_false, not_true_eq_false, not_false_eq_true, true_imp_iff, false_imp_iff, if_true, if_false, ite_true, ite_false, ↓reduceIte, Nat.reduceAdd, Nat.reduceEqDiff, Nat.reduceLeDiff, Nat.reduceLT, Nat.reduceBEq, Nat.reduceBNe, Int.reduceAdd, Int.reduceNeg, Int.reduceSub, Int.reduceLE, Int.reduceLT, Int.reduceToNat, Int.reduceEq, Int.reduceMul, Int.cast_ofNat_Int, Nat.zero_add, Nat.add_zero, Nat.le_refl, eq_self, ne_eq, reduceCtorEq, or_true, true_or, or_false, false_or, Bool.or_true, Bool.or_false, Bool.true_or, Bool.false_or, Nat.zero_le, Int.le_refl, Int.ofNat_zero, Int.ofNat_one, Bool.false_eq_true]
    exact hb0
  · exact hT.elim
set_option maxRecDepth 100000 in
theorem con_X4_foresee (l : Launch) (D : va_G) (ty : Nat → ClassId) (base : Nat) : ab_Con l D vwCl ty lw_ts base lw_wd yX4_foresee cX4_foresee 5 (some .int) 9 199 6 4808 Tr_X4_foresee :=
  ab_con_of (own := RX4) (rt := 1) (tb := tbX4) (ini := false) (ca := ca_X4_foresee) (by decide +kernel) rfl (fun h => by cases h) rfl lw_wd_ok wtbX4 lw_ar cm_X4_foresee
    (fun p e R s m args below meth c K hcx => by
      obtain ⟨hx, hb, hml, hown, hF, rfl⟩ := hcx
      exact ab_lk_all (ab_all_c (ab_tc_S hx hb hml hown lw_wd_ok hF ⟨rfl, rfl⟩ (con_X4_isIn l D ty base) (lw_wi (by decide +kernel) (by decide +kernel)) (lw_wi (by decide +kernel) (by decide +kernel)) (lw_wi (by decide +kernel) (by decide +kernel)) (lw_wi (by decide +kernel) (by decide +kernel)) (by decide +kernel) ⟨by decide, by decide⟩) (ab_all_c (ab_tc_V hx hb hml hown lw_wd_ok hF ⟨rfl, rfl⟩ (con_X4_fail l D ty base) rfl (lw_wi (by decide +kernel) (by decide +kernel)) (lw_wi (by decide +kernel) (by decide +kernel)) (lw_wi (by decide +kernel) (by decide +kernel)) (lw_wi (by decide +kernel) (by decide +kernel)) (lw_wi (by decide +kernel) (by decide +kernel)) (by decide +kernel) ⟨by decide, by decide⟩) (ab_all_c (ab_tc_V hx hb hml hown lw_wd_ok hF ⟨rfl, rfl⟩ (con_X4_kept l D ty base) rfl (lw_wi (by decide +kernel) (by decide +kernel)) (lw_wi (by decide +kernel) (by decide +kernel)) (lw_wi (by decide +kernel) (by decide +kernel)) (lw_wi (by decide +kernel) (by decide +kernel)) (lw_wi (by decide +kernel) (by decide +kernel)) (by decide +kernel) ⟨by decide, by decide⟩) (ab_all_c (ab_tc_V hx hb hml hown lw_wd_ok hF ⟨rfl, rfl⟩ (con_X4_daysOn l D ty base) rfl (lw_wi (by decide +kernel) (by decide +kernel)) (lw_wi (by decide +kernel) (by decide +kernel)) (lw_wi (by decide +kernel) (by decide +kernel)) (lw_wi (by decide +kernel) (by decide +kernel)) (lw_wi (by decide +kernel) (by decide +kernel)) (by decide +kernel) ⟨by decide, by decide⟩) (ab_all_c (ab_tc_V hx hb hml hown lw_wd_ok hF ⟨rfl, rfl⟩ (con_X4_onRoof l D ty base) rfl (lw_wi (by decide +kernel) (by decide +kernel)) (lw_wi (by decide +kernel) (by decide +kernel)) (lw_wi (by decide +kernel) (by decide +kernel)) (lw_wi (by decide +kernel) (by decide +kernel)) (lw_wi (by decide +kernel) (by decide +kernel)) (by decide +kernel) ⟨by decide, by decide⟩) (ab_all_c (ab_tc_V hx hb hml hown lw_wd_ok hF ⟨rfl, rfl⟩ (con_X4_cracked l D ty base) rfl (lw_wi (by decide +kernel) (by decide +kernel)) (lw_wi (by decide +kernel) (by decide +kernel)) (lw_wi (by decide +kernel) (by decide +kernel)) (lw_wi (by decide +kernel) (by decide +kernel)) (lw_wi (by decide +kernel) (by decide +kernel)) (by decide +kernel) ⟨by decide, by decide⟩) (ab_all_c (ab_tc_V hx hb hml hown lw_wd_ok hF ⟨rfl, rfl⟩ (con_X4_allRot l D ty base) rfl (lw_wi (by decide +kernel) (by decide +kernel)) (lw_wi (by decide +kernel) (by decide +kernel)) (lw_wi (by decide +kernel) (by decide +kernel)) (lw_wi (by decide +kernel) (by decide +kernel)) (lw_wi (by decide +kernel) (by decide +kernel)) (by decide +kernel) ⟨by decide, by decide⟩) (ab_all_c (ab_tc_V hx hb hml hown lw_wd_ok hF ⟨rfl, rfl⟩ (con_X4_bringBack l D ty base) rfl (lw_wi (by decide +kernel) (by decide +kernel)) (lw_wi (by decide +kernel) (by decide +kernel)) (lw_wi (by decide +kernel) (by decide +kernel)) (lw_wi (by decide +kernel) (by decide +kernel)) (lw_wi (by decide +kernel) (by decide +kernel)) (by decide +kernel) ⟨by decide, by decide⟩) (ab_all_n))))))))))
    (by intro as h K ht; unfold Tr_X4_foresee at ht; split at ht <;> first | exact ht.elim | exact Nat.le_of_ble_eq_true rfl) (sem_X4_foresee base)
