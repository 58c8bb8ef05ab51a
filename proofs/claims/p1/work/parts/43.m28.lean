/-! ===== the reference: what writes, on a bare roof ===== -/
theorem md_thr {h : AH} {a : Nat} {B : MA} {v : MV} (hm : mdAt h a (B, v)) (n : Int) : mdAt (ab_up h a (.inl (4, mdC B (n, v.2)))) a (B, (n, v.2)) := by
  obtain ⟨b0, b1, b2, b3, b4, b5⟩ := B
  have nd := md_nd hm
  obtain ⟨d, d0, d1, d2, d3, d4, d5, ne⟩ := hm
  dsimp only at d d0 d1 d2 d3 d4 d5 ne
  refine ⟨ab_up_eq _ _ _, ?_, ?_, ?_, ?_, ?_, ?_, ne⟩ <;> dsimp only <;> simp only [ab_up_ap, nd, if_false] <;> assumption
theorem md_num {h : AH} {a : Nat} {B : MA} {th sl : Int} {f0 f1 f2 f3 f4 f5 : Int → Int} (hm : mdAt h a (B, (th, sl, f0, f1, f2, f3, f4, f5))) (g : Int → Int) : mdAt (ab_up h B.2.2.2.2.1 (.inr (.inl (0, 2, g)))) a (B, (th, sl, f0, f1, f2, f3, g, f5)) := by
  obtain ⟨b0, b1, b2, b3, b4, b5⟩ := B
  have nd := md_nd hm
  obtain ⟨d, d0, d1, d2, d3, d4, d5, ne⟩ := hm
  dsimp only [mdC] at d d0 d1 d2 d3 d4 d5 ne
  refine ⟨?_, ?_, ?_, ?_, ?_, ab_up_eq _ _ _, ?_, ne⟩ <;> dsimp only [mdC] <;> simp only [ab_up_ap, nd, if_false] <;> assumption
theorem md_inL {a : Nat} {B : MA} : a ∈ mdL a B ∧ B.2.2.2.2.1 ∈ mdL a B := ⟨by simp [mdL], by simp [mdL]⟩
noncomputable def Tr_X4_fail : ATr := fun as h K => match as with
  | [.inr (.inl (some a)), .inl n] => ab_so (ab_md h a) fun P => (P.2.sl = 0 ∧ ab_in n) ∧ ∀ h', ab_md h' a = some (P.1, (n, P.2.2)) → ab_fr h h' [a] → K (some (.inl 0)) h'
  | _ => False
theorem mo_X4_fail : ab_mo Tr_X4_fail := by
  intro as h K K' hk ht
  unfold Tr_X4_fail at ht ⊢
  split at ht
  · exact ab_so_mo (fun P q => ⟨q.1, fun h' e1 e2 => hk _ _ (q.2 h' e1 e2)⟩) ht
  · exact ht.elim
def ca_X4_fail : Nat → Option ACS := ab_lk []
theorem cm_X4_fail : ∀ i q, ca_X4_fail i = some q → ab_moq i q := ab_lk_all (ab_all_n)
set_option maxRecDepth 100000 in
set_option maxHeartbeats 4000000 in
theorem sem_X4_fail (base : Nat) : ab_Sem tbX4 lw_ts base cX4_fail ca_X4_fail 1 2 0 0 (fun as => ab_en as 2) Tr_X4_fail := by
  intro as h K hT V hV
  unfold Tr_X4_fail at hT
  split at hT
  · rename_i a n
    obtain ⟨⟨⟨b0, b1, b2, b3, b4, b5⟩, th, sl, f0, f1, f2, f3, f4, f5⟩, hP, ⟨hb, hs⟩, hK⟩ := ab_so_el hT
    dsimp only at hb hs hK
    subst hb
    have hm := md_el hP
    obtain ⟨c, -⟩ := id hm
    dsimp only [mdC] at c
    have hk := hK _ (md_of (md_thr hm n)) (ab_fr.rf.up (by simp))
    dsimp only [mdC] at hk
    show V 0 [some (.inr (.inl (some a))), some (.inl n)] [] h 0 0
    refine hV (fun _ => false) 80 _ _ _ _ _ _ ?_
    simp only [c, ae_aload_n, ae_iconst, ae_iload_n, ae_ireturn, ae_putfield, dX4_fail_0, dX4_fail_1, dX4_fail_2, dX4_fail_5, dX4_fail_6, tbX4_p29, ab_wp0, ab_wps, ab_stp, ab_g, ab_st, ab_k2, ab_cl, ab_pop, ab_sz, ab_2, ab_ret, ab_f4, ab_tg, ab_I, ab_II, ab_A, ab_Rf, ab_VR, ab_IR, ab_VIR, ab_1, ab_LL, ab_DD, ab_ob, ab_pr, ab_qr, ab_ln, ab_so, ab_vI, ab_vA, ab_vD, ab_vL, ab_v2, ab_c, ab_fit, ab_rv, ab_tsw, ab_lsw, ab_up_eq, Fin.isValue, ab_f0, ab_f1, ab_f2, ab_f3, List.getElem?_cons_zero, List.getElem?_cons_succ, List.set_cons_zero, List.set_cons_succ, List.length_cons, List.length_nil, List.size_toArray, List.head?_cons, List.tail_cons, Option.map_some, cond_true, cond_false, true_and, and_true, false_and, and_false, not_true_eq_false, not_false_eq_true, true_imp_iff, false_imp_iff, if_true, if_false, ite_true, ite_false, ↓reduceIte, Nat.reduceAdd, Nat.reduceEqDiff, Nat.reduceLeDiff, Nat.reduceLT, Nat.reduceBEq, Nat.reduceBNe, Int.reduceAdd, Int.reduceNeg, Int.reduceSub, Int.reduceLE, Int.reduceLT, Int.reduceToNat, Int.reduceEq, Int.reduceMul, Int.cast_ofNat_Int, Nat.zero_add, Nat.add_zero, Nat.le_refl, eq_self, ne_eq, reduceCtorEq, or_true, true_or, or_false, false_or, Bool.or_true, Bool.or_false, Bool.true_or, Bool.false_or, Nat.zero_le, Int.le_refl, Int.ofNat_zero, Int.ofNat_one, Bool.false_eq_true]
    exact hk
  · exact hT.elim
set_option maxRecDepth 100000 in
theorem con_X4_fail (l : Launch) (D : va_G) (ty : Nat → ClassId) (base : Nat) : ab_Con l D vwCl ty lw_ts base lw_wd yX4_fail cX4_fail 2 (some .int) 0 0 0 0 Tr_X4_fail :=
  ab_con_of (own := RX4) (rt := 1) (tb := tbX4) (ini := false) (ca := ca_X4_fail) (by decide +kernel) rfl (fun h => by cases h) rfl lw_wd_ok wtbX4 lw_ar cm_X4_fail
    (fun p e R s m args below meth c K hcx => by
      obtain ⟨hx, hb, hml, hown, hF, rfl⟩ := hcx
      exact ab_lk_all (ab_all_n))
    (by intro as h K ht; unfold Tr_X4_fail at ht; split at ht <;> first | exact ht.elim | exact Nat.le_of_ble_eq_true rfl) (sem_X4_fail base)
noncomputable def Tr_X4_thrown : ATr := fun as h K => match as with
  | [.inr (.inl (some a))] => ab_so (ab_md h a) fun P => K (some (.inl P.2.thr)) h
  | _ => False
theorem mo_X4_thrown : ab_mo Tr_X4_thrown := by
  intro as h K K' hk ht
  unfold Tr_X4_thrown at ht ⊢
  split at ht
  · exact ab_so_mo (fun P q => hk _ _ q) ht
  · exact ht.elim
def ca_X4_thrown : Nat → Option ACS := ab_lk []
theorem cm_X4_thrown : ∀ i q, ca_X4_thrown i = some q → ab_moq i q := ab_lk_all (ab_all_n)
set_option maxRecDepth 100000 in
set_option maxHeartbeats 4000000 in
theorem sem_X4_thrown (base : Nat) : ab_Sem tbX4 lw_ts base cX4_thrown ca_X4_thrown 1 1 0 0 (fun as => ab_en as 1) Tr_X4_thrown := by
  intro as h K hT V hV
  unfold Tr_X4_thrown at hT
  split at hT
  · rename_i a
    obtain ⟨⟨⟨b0, b1, b2, b3, b4, b5⟩, th, sl, f0, f1, f2, f3, f4, f5⟩, hP, hK⟩ := ab_so_el hT
    dsimp only at hK
    obtain ⟨c, -⟩ := md_el hP
    dsimp only [mdC] at c
    show V 0 [some (.inr (.inl (some a)))] [] h 0 0
    refine hV (fun _ => false) 80 _ _ _ _ _ _ ?_
    simp only [c, ae_aload_n, ae_getfield, ae_ireturn, dX4_thrown_0, dX4_thrown_1, dX4_thrown_4, tbX4_g29, ab_wp0, ab_wps, ab_stp, ab_g, ab_st, ab_k2, ab_cl, ab_pop, ab_sz, ab_2, ab_ret, ab_f4, ab_tg, ab_I, ab_II, ab_A, ab_Rf, ab_VR, ab_IR, ab_VIR, ab_1, ab_LL, ab_DD, ab_ob, ab_pr, ab_qr, ab_ln, ab_so, ab_vI, ab_vA, ab_vD, ab_vL, ab_v2, ab_c, ab_fit, ab_rv, ab_tsw, ab_lsw, ab_up_eq, Fin.isValue, ab_f0, ab_f1, ab_f2, ab_f3, List.getElem?_cons_zero, List.getElem?_cons_succ, List.set_cons_zero, List.set_cons_succ, List.length_cons, List.length_nil, List.size_toArray, List.head?_cons, List.tail_cons, Option.map_some, cond_true, cond_false, true_and, and_true, false_and, and_false, not_true_eq_false, not_false_eq_true, true_imp_iff, false_imp_iff, if_true, if_false, ite_true, ite_false, ↓reduceIte, Nat.reduceAdd, Nat.reduceEqDiff, Nat.reduceLeDiff, Nat.reduceLT, Nat.reduceBEq, Nat.reduceBNe, Int.reduceAdd, Int.reduceNeg, Int.reduceSub, Int.reduceLE, Int.reduceLT, Int.reduceToNat, Int.reduceEq, Int.reduceMul, Int.cast_ofNat_Int, Nat.zero_add, Nat.add_zero, Nat.le_refl, eq_self, ne_eq, reduceCtorEq, or_true, true_or, or_false, false_or, Bool.or_true, Bool.or_false, Bool.true_or, Bool.false_or, Nat.zero_le, Int.le_refl, Int.ofNat_zero, Int.ofNat_one, Bool.false_eq_true]
    exact hK
  · exact hT.elim
set_option maxRecDepth 100000 in
theorem con_X4_thrown (l : Launch) (D : va_G) (ty : Nat → ClassId) (base : Nat) : ab_Con l D vwCl ty lw_ts base lw_wd yX4_thrown cX4_thrown 1 (some .int) 0 0 0 0 Tr_X4_thrown :=
  ab_con_of (own := RX4) (rt := 1) (tb := tbX4) (ini := false) (ca := ca_X4_thrown) (by decide +kernel) rfl (fun h => by cases h) rfl lw_wd_ok wtbX4 lw_ar cm_X4_thrown
    (fun p e R s m args below meth c K hcx => by
      obtain ⟨hx, hb, hml, hown, hF, rfl⟩ := hcx
      exact ab_lk_all (ab_all_n))
    (by intro as h K ht; unfold Tr_X4_thrown at ht; split at ht <;> first | exact ht.elim | exact Nat.le_of_ble_eq_true rfl) (sem_X4_thrown base)
noncomputable def Tr_X4_round : ATr := fun as h K => match as with
  | [.inr (.inl (some a)), .inl force, .inl right] => ab_so (ab_md h a) fun P => (bareV P.2 ∧ (ab_in force ∧ (right = 0 ∨ right = 1))) ∧ ∀ h' v', ab_md h' a = some (P.1, v') → (bareV v' ∧ v'.thr = P.2.thr ∧ v'.fnm 0 = P.2.fnm 0) → ab_fr h h' (mdL a P.1) → K (some (.inl (0))) h'
  | _ => False
theorem mo_X4_round : ab_mo Tr_X4_round := by
  intro as h K K' hk ht
  unfold Tr_X4_round at ht ⊢
  split at ht
  · exact ab_so_mo (fun P q => ⟨q.1, fun h' v' e1 e2 e3 => hk _ _ (q.2 h' v' e1 e2 e3)⟩) ht
  · exact ht.elim
def ca_X4_round : Nat → Option ACS := ab_lk []
theorem cm_X4_round : ∀ i q, ca_X4_round i = some q → ab_moq i q := ab_lk_all (ab_all_n)
set_option maxRecDepth 100000 in
set_option maxHeartbeats 4000000 in
theorem sem_X4_round (base : Nat) : ab_Sem tbX4 lw_ts base cX4_round ca_X4_round 1 5 0 0 (fun as => ab_en as 5) Tr_X4_round := by
  intro as h K hT V hV
  unfold Tr_X4_round at hT
  split at hT
  · rename_i a force right
    obtain ⟨⟨⟨b0, b1, b2, b3, b4, b5⟩, th, sl, f0, f1, f2, f3, f4, f5⟩, hP, ⟨hb, hs⟩, hK⟩ := ab_so_el hT
    obtain ⟨g0, g1, g2, g3, g4, g5⟩ := id hb
    dsimp only [MV.thr, MV.sl, MV.fst9, MV.fat, MV.frt, MV.ftb, MV.fnm, MV.fmk] at g0 g1 g2 g3 g4 g5 hK hs
    subst g0
    have hm := md_el hP
    obtain ⟨c, c0, c1, c2, c3, c4, c5, -⟩ := id hm
    dsimp only [mdC, MV.thr, MV.sl, MV.fst9, MV.fat, MV.frt, MV.ftb, MV.fnm, MV.fmk] at c c0 c1 c2 c3 c4 c5
    show V 0 [some (.inr (.inl (some a))), some (.inl force), some (.inl right), none, none] [] h 0 0
    have hk := hK _ _ (md_of (md_num hm (ab_uf f4 1 (0 + 0)))) ⟨⟨rfl, g1, g2, g3, by show 0 ≤ ab_uf f4 1 (0 + 0) 0 ∧ ab_uf f4 1 (0 + 0) 0 ≤ 1000; simpa [ab_uf] using g4, by simp [ab_uf, MV.fnm]⟩, rfl, by simp [ab_uf, MV.fnm]⟩ (ab_fr.rf.up md_inL.2)
    dsimp only at hk
    refine hV (fun p => p == 14 || p == 70) 80 _ _ _ _ _ _ ?_
    simp only [c, c4, g5, bI_in, bI_0, bI_1, bI_t, bI_f, bI_01, ae_aload_n, ae_baload, ae_bastore, ae_dup2, ae_getfield, ae_goto, ae_iadd, ae_iaload, ae_iastore, ae_iconst, ae_ifCond, ae_if_icmp, ae_iinc, ae_iload, ae_iload_n, ae_invokevirtual, ae_ireturn, ae_istore, ae_istore_n, dX4_round_0, dX4_round_1, dX4_round_2, dX4_round_3, dX4_round_5, dX4_round_7, dX4_round_8, dX4_round_11, dX4_round_14, dX4_round_15, dX4_round_18, dX4_round_20, dX4_round_21, dX4_round_23, dX4_round_26, dX4_round_29, dX4_round_30, dX4_round_32, dX4_round_33, dX4_round_34, dX4_round_37, dX4_round_38, dX4_round_40, dX4_round_43, dX4_round_46, dX4_round_47, dX4_round_50, dX4_round_51, dX4_round_52, dX4_round_55, dX4_round_58, dX4_round_59, dX4_round_61, dX4_round_63, dX4_round_64, dX4_round_67, dX4_round_70, dX4_round_71, dX4_round_74, dX4_round_76, dX4_round_77, dX4_round_80, dX4_round_83, dX4_round_84, dX4_round_86, dX4_round_89, dX4_round_92, dX4_round_95, dX4_round_98, dX4_round_99, dX4_round_102, dX4_round_103, dX4_round_104, dX4_round_105, dX4_round_106, dX4_round_107, dX4_round_108, dX4_round_109, tbX4_g22, tbX4_g25, tbX4_g33, ab_wp0, ab_wps, ab_stp, ab_g, ab_st, ab_k2, ab_cl, ab_pop, ab_sz, ab_2, ab_ret, ab_f4, ab_tg, ab_I, ab_II, ab_A, ab_Rf, ab_VR, ab_IR, ab_VIR, ab_1, ab_LL, ab_DD, ab_ob, ab_pr, ab_qr, ab_ln, ab_so, ab_vI, ab_vA, ab_vD, ab_vL, ab_v2, ab_c, ab_fit, ab_rv, ab_tsw, ab_lsw, ab_up_eq, Fin.isValue, ab_f0, ab_f1, ab_f2, ab_f3, List.getElem?_cons_zero, List.getElem?_cons_succ, List.set_cons_zero, List.set_cons_succ, List.length_cons, List.length_nil, List.size_toArray, List.head?_cons, List.tail_cons, Option.map_some, cond_true, cond_false, true_and, and_true, false_and, and_false, not_true_eq_false, not_false_eq_true, true_imp_iff, false_imp_iff, if_true, if_false, ite_true, ite_false, ↓reduceIte, Nat.reduceAdd, Nat.reduceEqDiff, Nat.reduceLeDiff, Nat.reduceLT, Nat.reduceBEq, Nat.reduceBNe, Int.reduceAdd, Int.reduceNeg, Int.reduceSub, Int.reduceLE, Int.reduceLT, Int.reduceToNat, Int.reduceEq, Int.reduceMul, Int.cast_ofNat_Int, Nat.zero_add, Nat.add_zero, Nat.le_refl, eq_self, ne_eq, reduceCtorEq, or_true, true_or, or_false, false_or, Bool.or_true, Bool.or_false, Bool.true_or, Bool.false_or, Nat.zero_le, Int.le_refl, Int.ofNat_zero, Int.ofNat_one, Bool.false_eq_true]
    try simp only [ab_in] at hs ⊢
    (repeat' (first | intro _ | refine And.intro ?_ ?_)) <;> (first | exact hk | contradiction | omega | (exfalso; omega))
  · exact hT.elim
set_option maxRecDepth 100000 in
theorem con_X4_round (l : Launch) (D : va_G) (ty : Nat → ClassId) (base : Nat) : ab_Con l D vwCl ty lw_ts base lw_wd yX4_round cX4_round 5 (some .int) 0 0 0 0 Tr_X4_round :=
  ab_con_of (own := RX4) (rt := 1) (tb := tbX4) (ini := false) (ca := ca_X4_round) (by decide +kernel) rfl (fun h => by cases h) rfl lw_wd_ok wtbX4 lw_ar cm_X4_round
    (fun p e R s m args below meth c K hcx => by
      obtain ⟨hx, hb, hml, hown, hF, rfl⟩ := hcx
      exact ab_lk_all (ab_all_n))
    (by intro as h K ht; unfold Tr_X4_round at ht; split at ht <;> first | exact ht.elim | exact Nat.le_of_ble_eq_true rfl) (sem_X4_round base)
noncomputable def Tr_X4_blow : ATr := fun as h K => match as with
  | [.inr (.inl (some a)), .inl force, .inl right] => ab_so (ab_md h a) fun P => (bareV P.2 ∧ ((0 ≤ force ∧ force ≤ 20) ∧ (right = 0 ∨ right = 1))) ∧ ∀ h' v', ab_md h' a = some (P.1, v') → (bareV v' ∧ v'.thr = P.2.thr ∧ v'.fnm 0 = P.2.fnm 0) → ab_fr h h' (mdL a P.1) → K (some (.inl (if force = 0 then 0 else 1))) h'
  | _ => False
theorem mo_X4_blow : ab_mo Tr_X4_blow := by
  intro as h K K' hk ht
  unfold Tr_X4_blow at ht ⊢
  split at ht
  · exact ab_so_mo (fun P q => ⟨q.1, fun h' v' e1 e2 e3 => hk _ _ (q.2 h' v' e1 e2 e3)⟩) ht
  · exact ht.elim
def ca_X4_blow : Nat → Option ACS := ab_lk [(131, (0, 4, 3, 0, 0, Tr_X4_round))]
theorem ca_X4_blow_131 : ca_X4_blow 131 = some (0, 4, 3, 0, 0, Tr_X4_round) := rfl
theorem cm_X4_blow : ∀ i q, ca_X4_blow i = some q → ab_moq i q := ab_lk_all (ab_all_c mo_X4_round (ab_all_n))
set_option maxRecDepth 100000 in
set_option maxHeartbeats 4000000 in
theorem sem_X4_blow (base : Nat) : ab_Sem tbX4 lw_ts base cX4_blow ca_X4_blow 1 4 0 0 (fun as => ab_en as 4) Tr_X4_blow := by
  intro as h K hT V hV
  unfold Tr_X4_blow at hT
  split at hT
  · rename_i a force right
    obtain ⟨⟨⟨b0, b1, b2, b3, b4, b5⟩, th, sl, f0, f1, f2, f3, f4, f5⟩, hP, ⟨hb, hs⟩, hK⟩ := ab_so_el hT
    obtain ⟨g0, g1, g2, g3, g4, g5⟩ := id hb
    dsimp only [MV.thr, MV.sl, MV.fst9, MV.fat, MV.frt, MV.ftb, MV.fnm, MV.fmk] at g0 g1 g2 g3 g4 g5 hK hs
    subst g0
    have hm := md_el hP
    obtain ⟨c, c0, c1, c2, c3, c4, c5, -⟩ := id hm
    dsimp only [mdC, MV.thr, MV.sl, MV.fst9, MV.fat, MV.frt, MV.ftb, MV.fnm, MV.fmk] at c c0 c1 c2 c3 c4 c5
    show V 0 [some (.inr (.inl (some a))), some (.inl force), some (.inl right), none] [] h 0 0
    by_cases hf : force = 0
    · have hk := hK h _ hP ⟨hb, rfl, rfl⟩ ab_fr.rf
      rw [if_pos hf] at hk
      refine hV (fun p => p == 6) 80 _ _ _ _ _ _ ?_
      simp only [hf, bI_in, bI_0, bI_1, bI_t, bI_f, bI_01, ae_aload_n, ae_goto, ae_iconst, ae_ifCond, ae_iinc, ae_iload_n, ae_invokevirtual, ae_ireturn, ae_istore_n, dX4_blow_0, dX4_blow_1, dX4_blow_4, dX4_blow_5, dX4_blow_6, dX4_blow_7, dX4_blow_8, dX4_blow_9, dX4_blow_10, dX4_blow_11, dX4_blow_14, dX4_blow_17, dX4_blow_20, dX4_blow_23, dX4_blow_24, ca_X4_blow_131, ab_wp0, ab_wps, ab_stp, ab_g, ab_st, ab_k2, ab_cl, ab_pop, ab_sz, ab_2, ab_ret, ab_f4, ab_tg, ab_I, ab_II, ab_A, ab_Rf, ab_VR, ab_IR, ab_VIR, ab_1, ab_LL, ab_DD, ab_ob, ab_pr, ab_qr, ab_ln, ab_so, ab_vI, ab_vA, ab_vD, ab_vL, ab_v2, ab_c, ab_fit, ab_rv, ab_tsw, ab_lsw, ab_up_eq, Fin.isValue, ab_f0, ab_f1, ab_f2, ab_f3, List.getElem?_cons_zero, List.getElem?_cons_succ, List.set_cons_zero, List.set_cons_succ, List.length_cons, List.length_nil, List.size_toArray, List.head?_cons, List.tail_cons, Option.map_some, cond_true, cond_false, true_and, and_true, false_and, and_false, not_true_eq_false, not_false_eq_true, true_imp_iff, false_imp_iff, if_true, if_false, ite_true, ite_false, ↓reduceIte, Nat.reduceAdd, Nat.reduceEqDiff, Nat.reduceLeDiff, Nat.reduceLT, Nat.reduceBEq, Nat.reduceBNe, Int.reduceAdd, Int.reduceNeg, Int.reduceSub, Int.reduceLE, Int.reduceLT, Int.reduceToNat, Int.reduceEq, Int.reduceMul, Int.cast_ofNat_Int, Nat.zero_add, Nat.add_zero, Nat.le_refl, eq_self, ne_eq, reduceCtorEq, or_true, true_or, or_false, false_or, Bool.or_true, Bool.or_false, Bool.true_or, Bool.false_or, Nat.zero_le, Int.le_refl, Int.ofNat_zero, Int.ofNat_one, Bool.false_eq_true]
      try simp only [ab_in] at hs ⊢
      (repeat' (first | intro _ | refine And.intro ?_ ?_)) <;> (first | exact hk | contradiction | omega | (exfalso; omega))
    · have hk : ∀ h' v', ab_md h' a = some ((b0, b1, b2, b3, b4, b5), v') → bareV v' ∧ v'.thr = th ∧ v'.fnm 0 = f4 0 → ab_fr h h' (mdL a (b0, b1, b2, b3, b4, b5)) → K (some (.inl 1)) h' := by
        intro h' v' e1 e2 e3
        have q := hK h' v' e1 e2 e3
        rw [if_neg hf] at q
        exact q
      refine hV (fun p => p == 4) 80 _ _ _ _ _ _ ?_
      simp only [c, hP, hb, bI_in, bI_0, bI_1, bI_t, bI_f, bI_01, Tr_X4_round, ae_aload_n, ae_goto, ae_iconst, ae_ifCond, ae_iinc, ae_iload_n, ae_invokevirtual, ae_ireturn, ae_istore_n, dX4_blow_0, dX4_blow_1, dX4_blow_4, dX4_blow_5, dX4_blow_6, dX4_blow_7, dX4_blow_8, dX4_blow_9, dX4_blow_10, dX4_blow_11, dX4_blow_14, dX4_blow_17, dX4_blow_20, dX4_blow_23, dX4_blow_24, ca_X4_blow_131, ab_wp0, ab_wps, ab_stp, ab_g, ab_st, ab_k2, ab_cl, ab_pop, ab_sz, ab_2, ab_ret, ab_f4, ab_tg, ab_I, ab_II, ab_A, ab_Rf, ab_VR, ab_IR, ab_VIR, ab_1, ab_LL, ab_DD, ab_ob, ab_pr, ab_qr, ab_ln, ab_so, ab_vI, ab_vA, ab_vD, ab_vL, ab_v2, ab_c, ab_fit, ab_rv, ab_tsw, ab_lsw, ab_up_eq, Fin.isValue, ab_f0, ab_f1, ab_f2, ab_f3, List.getElem?_cons_zero, List.getElem?_cons_succ, List.set_cons_zero, List.set_cons_succ, List.length_cons, List.length_nil, List.size_toArray, List.head?_cons, List.tail_cons, Option.map_some, cond_true, cond_false, true_and, and_true, false_and, and_false, not_true_eq_false, not_false_eq_true, true_imp_iff, false_imp_iff, if_true, if_false, ite_true, ite_false, ↓reduceIte, Nat.reduceAdd, Nat.reduceEqDiff, Nat.reduceLeDiff, Nat.reduceLT, Nat.reduceBEq, Nat.reduceBNe, Int.reduceAdd, Int.reduceNeg, Int.reduceSub, Int.reduceLE, Int.reduceLT, Int.reduceToNat, Int.reduceEq, Int.reduceMul, Int.cast_ofNat_Int, Nat.zero_add, Nat.add_zero, Nat.le_refl, eq_self, ne_eq, reduceCtorEq, or_true, true_or, or_false, false_or, Bool.or_true, Bool.or_false, Bool.true_or, Bool.false_or, Nat.zero_le, Int.le_refl, Int.ofNat_zero, Int.ofNat_one, Bool.false_eq_true]
      try simp only [ab_in] at hs ⊢
      (repeat' (first | intro _ | refine And.intro ?_ ?_)) <;> (first | exact hk _ _ (by assumption) (by assumption) (by assumption) | contradiction | omega | (exfalso; omega))
  · exact hT.elim
set_option maxRecDepth 100000 in
theorem con_X4_blow (l : Launch) (D : va_G) (ty : Nat → ClassId) (base : Nat) : ab_Con l D vwCl ty lw_ts base lw_wd yX4_blow cX4_blow 4 (some .int) 1 24 0 0 Tr_X4_blow :=
  ab_con_of (own := RX4) (rt := 1) (tb := tbX4) (ini := false) (ca := ca_X4_blow) (by decide +kernel) rfl (fun h => by cases h) rfl lw_wd_ok wtbX4 lw_ar cm_X4_blow
    (fun p e R s m args below meth c K hcx => by
      obtain ⟨hx, hb, hml, hown, hF, rfl⟩ := hcx
      exact ab_lk_all (ab_all_c (ab_tc_V hx hb hml hown lw_wd_ok hF ⟨rfl, rfl⟩ (con_X4_round l D ty base) rfl (lw_wi (by decide +kernel) (by decide +kernel)) (lw_wi (by decide +kernel) (by decide +kernel)) (lw_wi (by decide +kernel) (by decide +kernel)) (lw_wi (by decide +kernel) (by decide +kernel)) (lw_wi (by decide +kernel) (by decide +kernel)) (by decide +kernel) ⟨by decide, by decide⟩) (ab_all_n)))
    (by intro as h K ht; unfold Tr_X4_blow at ht; split at ht <;> first | exact ht.elim | exact Nat.le_of_ble_eq_true rfl) (sem_X4_blow base)
theorem lw3 : 3 ∈ lw_ts := by decide
noncomputable def Tr_X4_dayOn : ATr := fun as h K => match as with
  | [.inr (.inl (some a))] => ab_so (ab_md h a) fun P => (bareV P.2 ∧ (P.2.fnm 0 < 1000)) ∧ ∀ h' v', ab_md h' a = some (P.1, v') → (bareV v' ∧ v'.thr = P.2.thr ∧ v'.fnm 0 = P.2.fnm 0 + 1) → ab_fr h h' (mdL a P.1) → K (none) h'
  | _ => False
theorem mo_X4_dayOn : ab_mo Tr_X4_dayOn := by
  intro as h K K' hk ht
  unfold Tr_X4_dayOn at ht ⊢
  split at ht
  · exact ab_so_mo (fun P q => ⟨q.1, fun h' v' e1 e2 e3 => hk _ _ (q.2 h' v' e1 e2 e3)⟩) ht
  · exact ht.elim
def ca_X4_dayOn : Nat → Option ACS := ab_lk [(144, (0, 4, 3, 0, 0, Tr_X4_blow)), (169, (0, 4, 2, 0, 0, Tr_X4_hail)), (172, (0, 4, 2, 0, 0, Tr_X4_wet))]
theorem ca_X4_dayOn_144 : ca_X4_dayOn 144 = some (0, 4, 3, 0, 0, Tr_X4_blow) := rfl
theorem ca_X4_dayOn_169 : ca_X4_dayOn 169 = some (0, 4, 2, 0, 0, Tr_X4_hail) := rfl
theorem ca_X4_dayOn_172 : ca_X4_dayOn 172 = some (0, 4, 2, 0, 0, Tr_X4_wet) := rfl
theorem cm_X4_dayOn : ∀ i q, ca_X4_dayOn i = some q → ab_moq i q := ab_lk_all (ab_all_c mo_X4_blow (ab_all_c mo_X4_hail (ab_all_c mo_X4_wet (ab_all_n))))
set_option maxRecDepth 100000 in
set_option maxHeartbeats 4000000 in
theorem sem_X4_dayOn (base : Nat) : ab_Sem tbX4 lw_ts base cX4_dayOn ca_X4_dayOn 0 2 0 0 (fun as => ab_en as 2) Tr_X4_dayOn := by
  intro as h K hT V hV
  unfold Tr_X4_dayOn at hT
  split at hT
  · rename_i a
    obtain ⟨⟨⟨b0, b1, b2, b3, b4, b5⟩, th, sl, f0, f1, f2, f3, f4, f5⟩, hP, ⟨hb, hs⟩, hK⟩ := ab_so_el hT
    obtain ⟨g0, g1, g2, g3, g4, g5⟩ := id hb
    dsimp only [MV.thr, MV.sl, MV.fst9, MV.fat, MV.frt, MV.ftb, MV.fnm, MV.fmk] at g0 g1 g2 g3 g4 g5 hK hs
    subst g0
    have hm := md_el hP
    obtain ⟨c, c0, c1, c2, c3, c4, c5, -⟩ := id hm
    dsimp only [mdC, MV.thr, MV.sl, MV.fst9, MV.fat, MV.frt, MV.ftb, MV.fnm, MV.fmk] at c c0 c1 c2 c3 c4 c5
    show V 0 [some (.inr (.inl (some a))), none] [] h 0 0
    have t1 : Int.tmod (f4 0) 7 = f4 0 % 7 := Int.tmod_eq_emod_of_nonneg g4.1
    have e0 := g3 (4 * (f4 0 % 7) + 0) (by omega) (by omega)
    have e1 := g3 (4 * (f4 0 % 7) + 1) (by omega) (by omega)
    have l41 : ∀ h1 v1, ab_md h1 a = some ((b0, b1, b2, b3, b4, b5), v1) → bareV v1 ∧ v1.thr = th ∧ v1.fnm 0 = f4 0 → ab_fr h h1 (mdL a (b0, b1, b2, b3, b4, b5)) → V 42 [some (.inr (.inl (some a))), some (.inl (4 * (f4 0 % 7)))] [] h1 0 0 := by
      intro h1 v1 q1 q2 q3
      obtain ⟨th1, sl1, p0, p1, p2, p3, p4, p5⟩ := v1
      obtain ⟨hb1, q4, q5⟩ := q2
      obtain ⟨w0, w1, w2, w3, w4, w5⟩ := id hb1
      dsimp only [MV.thr, MV.sl, MV.fst9, MV.fat, MV.frt, MV.ftb, MV.fnm, MV.fmk] at w0 w1 w2 w3 w4 w5 q4 q5
      subst w0
      have hm1 := md_el q1
      obtain ⟨c', c0', c1', c2', c3', c4', c5', -⟩ := id hm1
      dsimp only [mdC, MV.thr, MV.sl, MV.fst9, MV.fat, MV.frt, MV.ftb, MV.fnm, MV.fmk] at c' c0' c1' c2' c3' c4' c5'
      have x2 := w3 (4 * (f4 0 % 7) + 2) (by omega) (by omega)
      have x3 := w3 (4 * (f4 0 % 7) + 3) (by omega) (by omega)
      have hk := hK _ _ (md_of (md_num hm1 (ab_uf p4 0 (p4 0 + 1)))) ⟨⟨rfl, w1, w2, w3, by show 0 ≤ ab_uf p4 0 (p4 0 + 1) 0 ∧ ab_uf p4 0 (p4 0 + 1) 0 ≤ 1000; simp only [ab_uf, if_true]; omega, by simpa [ab_uf, MV.fnm] using w5⟩, q4, by simp [ab_uf, MV.fnm, q5]⟩ (q3.tr (ab_fr.rf.up md_inL.2))
      dsimp only at hk
      refine hV (fun _ => false) 80 _ _ _ _ _ _ ?_
      simp only [c', c3', c4', x2, x3, q1, hb1, bI_in, bI_0, bI_1, bI_t, bI_f, bI_01, Tr_X4_hail, Tr_X4_wet, ae_aload_n, ae_dup2, ae_getfield, ae_iadd, ae_iaload, ae_iastore, ae_iconst, ae_iload_n, ae_invokevirtual, ae_return_, dX4_dayOn_42, dX4_dayOn_43, dX4_dayOn_44, dX4_dayOn_47, dX4_dayOn_48, dX4_dayOn_49, dX4_dayOn_50, dX4_dayOn_51, dX4_dayOn_54, dX4_dayOn_55, dX4_dayOn_56, dX4_dayOn_59, dX4_dayOn_60, dX4_dayOn_61, dX4_dayOn_62, dX4_dayOn_63, dX4_dayOn_66, dX4_dayOn_67, dX4_dayOn_70, dX4_dayOn_71, dX4_dayOn_72, dX4_dayOn_73, dX4_dayOn_74, dX4_dayOn_75, dX4_dayOn_76, tbX4_g19, tbX4_g22, ca_X4_dayOn_144, ca_X4_dayOn_169, ca_X4_dayOn_172, ab_wp0, ab_wps, ab_stp, ab_g, ab_st, ab_k2, ab_cl, ab_pop, ab_sz, ab_2, ab_ret, ab_f4, ab_tg, ab_I, ab_II, ab_A, ab_Rf, ab_VR, ab_IR, ab_VIR, ab_1, ab_LL, ab_DD, ab_ob, ab_pr, ab_qr, ab_ln, ab_so, ab_vI, ab_vA, ab_vD, ab_vL, ab_v2, ab_c, ab_fit, ab_rv, ab_tsw, ab_lsw, ab_up_eq, Fin.isValue, ab_f0, ab_f1, ab_f2, ab_f3, List.getElem?_cons_zero, List.getElem?_cons_succ, List.set_cons_zero, List.set_cons_succ, List.length_cons, List.length_nil, List.size_toArray, List.head?_cons, List.tail_cons, Option.map_some, cond_true, cond_false, true_and, and_true, false_and, and_false, not_true_eq_false, not_false_eq_true, true_imp_iff, false_imp_iff, if_true, if_false, ite_true, ite_false, ↓reduceIte, Nat.reduceAdd, Nat.reduceEqDiff, Nat.reduceLeDiff, Nat.reduceLT, Nat.reduceBEq, Nat.reduceBNe, Int.reduceAdd, Int.reduceNeg, Int.reduceSub, Int.reduceLE, Int.reduceLT, Int.reduceToNat, Int.reduceEq, Int.reduceMul, Int.cast_ofNat_Int, Nat.zero_add, Nat.add_zero, Nat.le_refl, eq_self, ne_eq, reduceCtorEq, or_true, true_or, or_false, false_or, Bool.or_true, Bool.or_false, Bool.true_or, Bool.false_or, Nat.zero_le, Int.le_refl, Int.ofNat_zero, Int.ofNat_one, Bool.false_eq_true]
      try simp only [ab_in]
      (repeat' (first | intro _ | refine And.intro ?_ ?_)) <;> (first | exact hk | contradiction | omega | (exfalso; omega))
    refine hV (fun p => p == 42) 80 _ _ _ _ _ _ ?_
    simp only [c, c3, c4, t1, e0, e1, hP, hb, bI_in, bI_0, bI_1, bI_t, bI_f, bI_01, Tr_X4_blow, ae_aload_n, ae_bipush, ae_getfield, ae_goto, ae_iadd, ae_iaload, ae_iconst, ae_if_icmp, ae_iload_n, ae_imul, ae_invokevirtual, ae_irem, ae_istore_n, ae_pop, dX4_dayOn_0, dX4_dayOn_1, dX4_dayOn_2, dX4_dayOn_5, dX4_dayOn_6, dX4_dayOn_7, dX4_dayOn_9, dX4_dayOn_10, dX4_dayOn_11, dX4_dayOn_12, dX4_dayOn_13, dX4_dayOn_14, dX4_dayOn_17, dX4_dayOn_18, dX4_dayOn_19, dX4_dayOn_20, dX4_dayOn_21, dX4_dayOn_22, dX4_dayOn_25, dX4_dayOn_26, dX4_dayOn_27, dX4_dayOn_28, dX4_dayOn_29, dX4_dayOn_30, dX4_dayOn_33, dX4_dayOn_34, dX4_dayOn_37, dX4_dayOn_38, dX4_dayOn_41, tbX4_g19, tbX4_g22, ca_X4_dayOn_144, ca_X4_dayOn_169, ca_X4_dayOn_172, ab_wp0, ab_wps, ab_stp, ab_g, ab_st, ab_k2, ab_cl, ab_pop, ab_sz, ab_2, ab_ret, ab_f4, ab_tg, ab_I, ab_II, ab_A, ab_Rf, ab_VR, ab_IR, ab_VIR, ab_1, ab_LL, ab_DD, ab_ob, ab_pr, ab_qr, ab_ln, ab_so, ab_vI, ab_vA, ab_vD, ab_vL, ab_v2, ab_c, ab_fit, ab_rv, ab_tsw, ab_lsw, ab_up_eq, Fin.isValue, ab_f0, ab_f1, ab_f2, ab_f3, List.getElem?_cons_zero, List.getElem?_cons_succ, List.set_cons_zero, List.set_cons_succ, List.length_cons, List.length_nil, List.size_toArray, List.head?_cons, List.tail_cons, Option.map_some, cond_true, cond_false, true_and, and_true, false_and, and_false, not_true_eq_false, not_false_eq_true, true_imp_iff, false_imp_iff, if_true, if_false, ite_true, ite_false, ↓reduceIte, Nat.reduceAdd, Nat.reduceEqDiff, Nat.reduceLeDiff, Nat.reduceLT, Nat.reduceBEq, Nat.reduceBNe, Int.reduceAdd, Int.reduceNeg, Int.reduceSub, Int.reduceLE, Int.reduceLT, Int.reduceToNat, Int.reduceEq, Int.reduceMul, Int.cast_ofNat_Int, Nat.zero_add, Nat.add_zero, Nat.le_refl, eq_self, ne_eq, reduceCtorEq, or_true, true_or, or_false, false_or, Bool.or_true, Bool.or_false, Bool.true_or, Bool.false_or, Nat.zero_le, Int.le_refl, Int.ofNat_zero, Int.ofNat_one, Bool.false_eq_true]
    try simp only [ab_in]
    (repeat' (first | intro _ | refine And.intro ?_ ?_)) <;> (first | exact l41 _ _ (by assumption) (by assumption) (by assumption) | contradiction | omega | (exfalso; omega))
  · exact hT.elim
set_option maxRecDepth 100000 in
theorem con_X4_dayOn (l : Launch) (D : va_G) (ty : Nat → ClassId) (base : Nat) : ab_Con l D vwCl ty lw_ts base lw_wd yX4_dayOn cX4_dayOn 2 none 7 156 0 0 Tr_X4_dayOn :=
  ab_con_of (own := RX4) (rt := 0) (tb := tbX4) (ini := false) (ca := ca_X4_dayOn) (by decide +kernel) rfl (fun h => by cases h) rfl lw_wd_ok wtbX4 lw_ar cm_X4_dayOn
    (fun p e R s m args below meth c K hcx => by
      obtain ⟨hx, hb, hml, hown, hF, rfl⟩ := hcx
      exact ab_lk_all (ab_all_c (ab_tc_V hx hb hml hown lw_wd_ok hF ⟨rfl, rfl⟩ (con_X4_blow l D ty base) rfl (lw_wi (by decide +kernel) (by decide +kernel)) (lw_wi (by decide +kernel) (by decide +kernel)) (lw_wi (by decide +kernel) (by decide +kernel)) (lw_wi (by decide +kernel) (by decide +kernel)) (lw_wi (by decide +kernel) (by decide +kernel)) (by decide +kernel) ⟨by decide, by decide⟩) (ab_all_c (ab_tc_V hx hb hml hown lw_wd_ok hF ⟨rfl, rfl⟩ (con_X4_hail l D ty base) rfl (lw_wi (by decide +kernel) (by decide +kernel)) (lw_wi (by decide +kernel) (by decide +kernel)) (lw_wi (by decide +kernel) (by decide +kernel)) (lw_wi (by decide +kernel) (by decide +kernel)) (lw_wi (by decide +kernel) (by decide +kernel)) (by decide +kernel) ⟨by decide, by decide⟩) (ab_all_c (ab_tc_V hx hb hml hown lw_wd_ok hF ⟨rfl, rfl⟩ (con_X4_wet l D ty base) rfl (lw_wi (by decide +kernel) (by decide +kernel)) (lw_wi (by decide +kernel) (by decide +kernel)) (lw_wi (by decide +kernel) (by decide +kernel)) (lw_wi (by decide +kernel) (by decide +kernel)) (lw_wi (by decide +kernel) (by decide +kernel)) (by decide +kernel) ⟨by decide, by decide⟩) (ab_all_n)))))
    (by intro as h K ht; unfold Tr_X4_dayOn at ht; split at ht <;> first | exact ht.elim | exact Nat.le_of_ble_eq_true rfl) (sem_X4_dayOn base)
noncomputable def Tr_X4_daysOn : ATr := fun as h K => match as with
  | [.inr (.inl (some a)), .inl days] => ab_so (ab_md h a) fun P => (bareV P.2 ∧ ((0 ≤ days ∧ days ≤ 60) ∧ P.2.fnm 0 + days ≤ 1000)) ∧ ∀ h' v', ab_md h' a = some (P.1, v') → (bareV v' ∧ v'.thr = P.2.thr ∧ v'.fnm 0 = P.2.fnm 0 + days) → ab_fr h h' (mdL a P.1) → K (none) h'
  | _ => False
theorem mo_X4_daysOn : ab_mo Tr_X4_daysOn := by
  intro as h K K' hk ht
  unfold Tr_X4_daysOn at ht ⊢
  split at ht
  · exact ab_so_mo (fun P q => ⟨q.1, fun h' v' e1 e2 e3 => hk _ _ (q.2 h' v' e1 e2 e3)⟩) ht
  · exact ht.elim
def ca_X4_daysOn : Nat → Option ACS := ab_lk [(175, (0, 4, 1, 0, 0, Tr_X4_dayOn))]
theorem ca_X4_daysOn_175 : ca_X4_daysOn 175 = some (0, 4, 1, 0, 0, Tr_X4_dayOn) := rfl
theorem cm_X4_daysOn : ∀ i q, ca_X4_daysOn i = some q → ab_moq i q := ab_lk_all (ab_all_c mo_X4_dayOn (ab_all_n))
set_option maxRecDepth 100000 in
set_option maxHeartbeats 4000000 in
theorem sem_X4_daysOn (base : Nat) : ab_Sem tbX4 lw_ts base cX4_daysOn ca_X4_daysOn 0 3 0 0 (fun as => ab_en as 3) Tr_X4_daysOn := by
  intro as h K hT V hV
  unfold Tr_X4_daysOn at hT
  split at hT
  · rename_i a days
    obtain ⟨⟨⟨b0, b1, b2, b3, b4, b5⟩, th, sl, f0, f1, f2, f3, f4, f5⟩, hP, ⟨hb, hs⟩, hK⟩ := ab_so_el hT
    obtain ⟨g0, g1, g2, g3, g4, g5⟩ := id hb
    dsimp only [MV.thr, MV.sl, MV.fst9, MV.fat, MV.frt, MV.ftb, MV.fnm, MV.fmk] at g0 g1 g2 g3 g4 g5 hK hs
    subst g0
    have hm := md_el hP
    obtain ⟨c, c0, c1, c2, c3, c4, c5, -⟩ := id hm
    dsimp only [mdC, MV.thr, MV.sl, MV.fst9, MV.fat, MV.frt, MV.ftb, MV.fnm, MV.fmk] at c c0 c1 c2 c3 c4 c5
    show V 0 [some (.inr (.inl (some a))), some (.inl days), none] [] h 0 0
    have loop : ∀ (n : Nat) (k : Int) (h1 : AH) (v1 : MV), k + n = days → 0 ≤ k → ab_md h1 a = some ((b0, b1, b2, b3, b4, b5), v1) → bareV v1 → v1.thr = th → v1.fnm 0 = f4 0 + k → ab_fr h h1 (mdL a (b0, b1, b2, b3, b4, b5)) → V 2 [some (.inr (.inl (some a))), some (.inl days), some (.inl k)] [] h1 0 0 := by
      intro n
      induction n with
      | zero =>
        intro k h1 v1 e1 e2 q1 q2 q3 q4 q5
        have hk9 : k = days := by omega
        subst hk9
        have hk := hK h1 v1 q1 ⟨q2, q3, q4⟩ q5
        refine hV (fun p => p == 7) 80 _ _ _ _ _ _ ?_
        simp only [ae_aload_n, ae_goto, ae_iconst, ae_if_icmp, ae_iinc, ae_iload_n, ae_invokevirtual, ae_istore_n, ae_return_, dX4_daysOn_0, dX4_daysOn_1, dX4_daysOn_2, dX4_daysOn_3, dX4_daysOn_4, dX4_daysOn_7, dX4_daysOn_8, dX4_daysOn_11, dX4_daysOn_14, dX4_daysOn_17, ca_X4_daysOn_175, ab_wp0, ab_wps, ab_stp, ab_g, ab_st, ab_k2, ab_cl, ab_pop, ab_sz, ab_2, ab_ret, ab_f4, ab_tg, ab_I, ab_II, ab_A, ab_Rf, ab_VR, ab_IR, ab_VIR, ab_1, ab_LL, ab_DD, ab_ob, ab_pr, ab_qr, ab_ln, ab_so, ab_vI, ab_vA, ab_vD, ab_vL, ab_v2, ab_c, ab_fit, ab_rv, ab_tsw, ab_lsw, ab_up_eq, Fin.isValue, ab_f0, ab_f1, ab_f2, ab_f3, List.getElem?_cons_zero, List.getElem?_cons_succ, List.set_cons_zero, List.set_cons_succ, List.length_cons, List.length_nil, List.size_toArray, List.head?_cons, List.tail_cons, Option.map_some, cond_true, cond_false, true_and, and_true, false_and, and_false, not_true_eq_false, not_false_eq_true, true_imp_iff, false_imp_iff, if_true, if_false, ite_true, ite_false, ↓reduceIte, Nat.reduceAdd, Nat.reduceEqDiff, Nat.reduceLeDiff, Nat.reduceLT, Nat.reduceBEq, Nat.reduceBNe, Int.reduceAdd, Int.reduceNeg, Int.reduceSub, Int.reduceLE, Int.reduceLT, Int.reduceToNat, Int.reduceEq, Int.reduceMul, Int.cast_ofNat_Int, Nat.zero_add, Nat.add_zero, Nat.le_refl, eq_self, ne_eq, reduceCtorEq, or_true, true_or, or_false, false_or, Bool.or_true, Bool.or_false, Bool.true_or, Bool.false_or, Nat.zero_le, Int.le_refl, Int.ofNat_zero, Int.ofNat_one, Bool.false_eq_true]
        simp only [ab_in]
        (repeat' (first | intro _ | refine And.intro ?_ ?_)) <;> (first | exact hk | contradiction | omega | (exfalso; omega))
      | succ n ih =>
        intro k h1 v1 e1 e2 q1 q2 q3 q4 q5
        have ih' : ∀ h2 v2, ab_md h2 a = some ((b0, b1, b2, b3, b4, b5), v2) → bareV v2 ∧ v2.thr = v1.thr ∧ v2.fnm 0 = v1.fnm 0 + 1 → ab_fr h1 h2 (mdL a (b0, b1, b2, b3, b4, b5)) → V 2 [some (.inr (.inl (some a))), some (.inl days), some (.inl (k + 1))] [] h2 0 0 := fun h2 v2 w1 w2 w3 => ih (k + 1) h2 v2 (by omega) (by omega) w1 w2.1 (w2.2.1.trans q3) (by rw [w2.2.2, q4]; omega) (q5.tr w3)
        have hc1 : ∃ fs, h1 a = some (.inl (4, fs)) := ⟨_, (md_el q1).1⟩
        obtain ⟨fs, hc1⟩ := hc1
        have l7 : V 7 [some (.inr (.inl (some a))), some (.inl days), some (.inl k)] [] h1 0 0 := by
          refine hV (fun p => p == 2) 80 _ _ _ _ _ _ ?_
          simp only [hc1, q1, q2, bI_in, bI_0, bI_1, bI_t, bI_f, bI_01, Tr_X4_dayOn, ae_aload_n, ae_goto, ae_iinc, ae_invokevirtual, dX4_daysOn_7, dX4_daysOn_8, dX4_daysOn_11, dX4_daysOn_14, ca_X4_daysOn_175, ab_wp0, ab_wps, ab_stp, ab_g, ab_st, ab_k2, ab_cl, ab_pop, ab_sz, ab_2, ab_ret, ab_f4, ab_tg, ab_I, ab_II, ab_A, ab_Rf, ab_VR, ab_IR, ab_VIR, ab_1, ab_LL, ab_DD, ab_ob, ab_pr, ab_qr, ab_ln, ab_so, ab_vI, ab_vA, ab_vD, ab_vL, ab_v2, ab_c, ab_fit, ab_rv, ab_tsw, ab_lsw, ab_up_eq, Fin.isValue, ab_f0, ab_f1, ab_f2, ab_f3, List.getElem?_cons_zero, List.getElem?_cons_succ, List.set_cons_zero, List.set_cons_succ, List.length_cons, List.length_nil, List.size_toArray, List.head?_cons, List.tail_cons, Option.map_some, cond_true, cond_false, true_and, and_true, false_and, and_false, not_true_eq_false, not_false_eq_true, true_imp_iff, false_imp_iff, if_true, if_false, ite_true, ite_false, ↓reduceIte, Nat.reduceAdd, Nat.reduceEqDiff, Nat.reduceLeDiff, Nat.reduceLT, Nat.reduceBEq, Nat.reduceBNe, Int.reduceAdd, Int.reduceNeg, Int.reduceSub, Int.reduceLE, Int.reduceLT, Int.reduceToNat, Int.reduceEq, Int.reduceMul, Int.cast_ofNat_Int, Nat.zero_add, Nat.add_zero, Nat.le_refl, eq_self, ne_eq, reduceCtorEq, or_true, true_or, or_false, false_or, Bool.or_true, Bool.or_false, Bool.true_or, Bool.false_or, Nat.zero_le, Int.le_refl, Int.ofNat_zero, Int.ofNat_one, Bool.false_eq_true]
          (repeat' (first | intro _ | refine And.intro ?_ ?_)) <;> (first | exact ih' _ _ (by assumption) (by assumption) (by assumption) | contradiction | omega | (exfalso; omega))
        refine hV (fun p => bif p == 7 then true else p == 17) 80 _ _ _ _ _ _ ?_
        simp only [ae_if_icmp, ae_iload_n, dX4_daysOn_2, dX4_daysOn_3, dX4_daysOn_4, ca_X4_daysOn_175, ab_wp0, ab_wps, ab_stp, ab_g, ab_st, ab_k2, ab_cl, ab_pop, ab_sz, ab_2, ab_ret, ab_f4, ab_tg, ab_I, ab_II, ab_A, ab_Rf, ab_VR, ab_IR, ab_VIR, ab_1, ab_LL, ab_DD, ab_ob, ab_pr, ab_qr, ab_ln, ab_so, ab_vI, ab_vA, ab_vD, ab_vL, ab_v2, ab_c, ab_fit, ab_rv, ab_tsw, ab_lsw, ab_up_eq, Fin.isValue, ab_f0, ab_f1, ab_f2, ab_f3, List.getElem?_cons_zero, List.getElem?_cons_succ, List.set_cons_zero, List.set_cons_succ, List.length_cons, List.length_nil, List.size_toArray, List.head?_cons, List.tail_cons, Option.map_some, cond_true, cond_false, true_and, and_true, false_and, and_false, not_true_eq_false, not_false_eq_true, true_imp_iff, false_imp_iff, if_true, if_false, ite_true, ite_false, ↓reduceIte, Nat.reduceAdd, Nat.reduceEqDiff, Nat.reduceLeDiff, Nat.reduceLT, Nat.reduceBEq, Nat.reduceBNe, Int.reduceAdd, Int.reduceNeg, Int.reduceSub, Int.reduceLE, Int.reduceLT, Int.reduceToNat, Int.reduceEq, Int.reduceMul, Int.cast_ofNat_Int, Nat.zero_add, Nat.add_zero, Nat.le_refl, eq_self, ne_eq, reduceCtorEq, or_true, true_or, or_false, false_or, Bool.or_true, Bool.or_false, Bool.true_or, Bool.false_or, Nat.zero_le, Int.le_refl, Int.ofNat_zero, Int.ofNat_one, Bool.false_eq_true]
        simp only [ab_in]
        (repeat' (first | intro _ | refine And.intro ?_ ?_)) <;> (first | exact l7 | contradiction | omega | (exfalso; omega))
    have l0 := loop days.toNat 0 h _ (by omega) (by omega) hP hb rfl (by simp) ab_fr.rf
    refine hV (fun p => p == 2) 80 _ _ _ _ _ _ ?_
    simp only [bI_in, bI_0, bI_1, bI_t, bI_f, bI_01, ae_iconst, ae_istore_n, dX4_daysOn_0, dX4_daysOn_1, ca_X4_daysOn_175, ab_wp0, ab_wps, ab_stp, ab_g, ab_st, ab_k2, ab_cl, ab_pop, ab_sz, ab_2, ab_ret, ab_f4, ab_tg, ab_I, ab_II, ab_A, ab_Rf, ab_VR, ab_IR, ab_VIR, ab_1, ab_LL, ab_DD, ab_ob, ab_pr, ab_qr, ab_ln, ab_so, ab_vI, ab_vA, ab_vD, ab_vL, ab_v2, ab_c, ab_fit, ab_rv, ab_tsw, ab_lsw, ab_up_eq, Fin.isValue, ab_f0, ab_f1, ab_f2, ab_f3, List.getElem?_cons_zero, List.getElem?_cons_succ, List.set_cons_zero, List.set_cons_succ, List.length_cons, List.length_nil, List.size_toArray, List.head?_cons, List.tail_cons, Option.map_some, cond_true, cond_false, true_and, and_true, false_and, and_false, not_true_eq_false, not_false_eq_true, true_imp_iff, false_imp_iff, if_true, if_false, ite_true, ite_false, ↓reduceIte, Nat.reduceAdd, Nat.reduceEqDiff, Nat.reduceLeDiff, Nat.reduceLT, Nat.reduceBEq, Nat.reduceBNe, Int.reduceAdd, Int.reduceNeg, Int.reduceSub, Int.reduceLE, Int.reduceLT, Int.reduceToNat, Int.reduceEq, Int.reduceMul, Int.cast_ofNat_Int, Nat.zero_add, Nat.add_zero, Nat.le_refl, eq_self, ne_eq, reduceCtorEq, or_true, true_or, or_false, false_or, Bool.or_true, Bool.or_false, Bool.true_or, Bool.false_or, Nat.zero_le, Int.le_refl, Int.ofNat_zero, Int.ofNat_one, Bool.false_eq_true]
    try simp only [ab_in] at hs ⊢
    (repeat' (first | intro _ | refine And.intro ?_ ?_)) <;> (first | exact l0 | contradiction | omega | (exfalso; omega))
  · exact hT.elim
set_option maxRecDepth 100000 in
theorem con_X4_daysOn (l : Launch) (D : va_G) (ty : Nat → ClassId) (base : Nat) : ab_Con l D vwCl ty lw_ts base lw_wd yX4_daysOn cX4_daysOn 3 none 8 177 0 0 Tr_X4_daysOn :=
  ab_con_of (own := RX4) (rt := 0) (tb := tbX4) (ini := false) (ca := ca_X4_daysOn) (by decide +kernel) rfl (fun h => by cases h) rfl lw_wd_ok wtbX4 lw_ar cm_X4_daysOn
    (fun p e R s m args below meth c K hcx => by
      obtain ⟨hx, hb, hml, hown, hF, rfl⟩ := hcx
      exact ab_lk_all (ab_all_c (ab_tc_V hx hb hml hown lw_wd_ok hF ⟨rfl, rfl⟩ (con_X4_dayOn l D ty base) rfl (lw_wi (by decide +kernel) (by decide +kernel)) (lw_wi (by decide +kernel) (by decide +kernel)) (lw_wi (by decide +kernel) (by decide +kernel)) (lw_wi (by decide +kernel) (by decide +kernel)) (lw_wi (by decide +kernel) (by decide +kernel)) (by decide +kernel) ⟨by decide, by decide⟩) (ab_all_n)))
    (by intro as h K ht; unfold Tr_X4_daysOn at ht; split at ht <;> first | exact ht.elim | exact Nat.le_of_ble_eq_true rfl) (sem_X4_daysOn base)
