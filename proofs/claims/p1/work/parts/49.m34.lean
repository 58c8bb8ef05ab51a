/-! ===== the reference: lay, board, setDay, share, digest, on a fresh object ===== -/
theorem md_kpL {h h' : AH} {a : Nat} {B : MA} {x : Nat} {c : AC} (hf : ab_kp h h' (mdL a B)) (hx : x ∈ mdL a B) : ab_kp h (ab_up h' x c) (mdL a B) := hf.up hx
noncomputable def Tr_X4_board : ATr := fun as h K => match as with
  | [.inr (.inl (some a)), .inl x, .inl y] => ab_so (ab_md h a) fun P => (bareV P.2 ∧ P.2.fnm 0 = 0 ∧ (ab_in x ∧ ab_in y)) ∧ (isPlaceF x y = true → ∀ h' v', ab_md h' a = some (P.1, v') → v'.thr = 0 → ab_kp h h' (mdL a P.1) → K (some (.inl (0))) h') ∧ (isPlaceF x y = false → ∀ h' v', ab_md h' a = some (P.1, v') → v'.thr = 1 → ab_kp h h' (mdL a P.1) → K (some (.inl (0))) h')
  | _ => False
theorem mo_X4_board : ab_mo Tr_X4_board := by
  intro as h K K' hk ht
  unfold Tr_X4_board at ht ⊢
  split at ht
  · exact ab_so_mo (fun P q => ⟨q.1, fun e h' v' e1 e2 e3 => hk _ _ (q.2.1 e h' v' e1 e2 e3), fun e h' v' e1 e2 e3 => hk _ _ (q.2.2 e h' v' e1 e2 e3)⟩) ht
  · exact ht.elim
def ca_X4_board : Nat → Option ACS := ab_lk [(44, (2, 0, 2, 0, 0, Tr_X4_isPlace)), (58, (0, 4, 2, 0, 0, Tr_X4_fail)), (48, (0, 4, 3, 0, 0, Tr_X4_slateAt))]
theorem ca_X4_board_44 : ca_X4_board 44 = some (2, 0, 2, 0, 0, Tr_X4_isPlace) := rfl
theorem ca_X4_board_58 : ca_X4_board 58 = some (0, 4, 2, 0, 0, Tr_X4_fail) := rfl
theorem ca_X4_board_48 : ca_X4_board 48 = some (0, 4, 3, 0, 0, Tr_X4_slateAt) := rfl
theorem cm_X4_board : ∀ i q, ca_X4_board i = some q → ab_moq i q := ab_lk_all (ab_all_c mo_X4_isPlace (ab_all_c mo_X4_fail (ab_all_c mo_X4_slateAt (ab_all_n))))
set_option maxRecDepth 100000 in
set_option maxHeartbeats 4000000 in
theorem sem_X4_board (base : Nat) : ab_Sem tbX4 lw_ts base cX4_board ca_X4_board 1 4 0 0 (fun as => ab_en as 4) Tr_X4_board := by
  intro as h K hT V hV
  unfold Tr_X4_board at hT
  split at hT
  · rename_i a x y
    obtain ⟨⟨⟨b0, b1, b2, b3, b4, b5⟩, th, sl, f0, f1, f2, f3, f4, f5⟩, hP, ⟨hb, hs⟩, hK⟩ := ab_so_el hT
    obtain ⟨g0, g1, g2, g3, g4, g5⟩ := id hb
    dsimp only [MV.thr, MV.sl, MV.fst9, MV.fat, MV.frt, MV.ftb, MV.fnm, MV.fmk] at g0 g1 g2 g3 g4 g5 hK hs
    subst g0
    have hm := md_el hP
    obtain ⟨c, c0, c1, c2, c3, c4, c5, -⟩ := id hm
    dsimp only [mdC, MV.thr, MV.sl, MV.fst9, MV.fat, MV.frt, MV.ftb, MV.fnm, MV.fmk] at c c0 c1 c2 c3 c4 c5
    show V 0 [some (.inr (.inl (some a))), some (.inl x), some (.inl y), none] [] h 0 0
    obtain ⟨g6, hs⟩ := hs
    obtain ⟨hK0, hK1⟩ := hK
    have body : ∀ h1, ab_md h1 a = some ((b0, b1, b2, b3, b4, b5), (0, 0, f0, f1, f2, f3, f4, f5)) → ab_fr h h1 (mdL a (b0, b1, b2, b3, b4, b5)) → V 5 [some (.inr (.inl (some a))), some (.inl x), some (.inl y), none] [] h1 0 0 := by
      intro h1 hP1 fr1
      have hm1 := md_el hP1
      have hb1 : bareV (0, 0, f0, f1, f2, f3, f4, f5) := hb
      obtain ⟨c', c0', c1', c2', c3', c4', c5', -⟩ := id hm1
      dsimp only [mdC, MV.thr, MV.sl, MV.fst9, MV.fat, MV.frt, MV.ftb, MV.fnm, MV.fmk] at c' c0' c1' c2' c3' c4' c5'
      have y0 : isPlaceF x y = true → K (some (.inl (0))) h1 := fun e => hK0 e h1 _ hP1 rfl (ab_kp.of_fr fr1)
      have x1 : isPlaceF x y = false → ∀ h2, ab_md h2 a = some ((b0, b1, b2, b3, b4, b5), (1, 0, f0, f1, f2, f3, f4, f5)) → ab_fr h1 h2 [a] → K (some (.inl 0)) h2 := fun e h2 w1 w2 => hK1 e h2 _ w1 rfl ((ab_kp.of_fr fr1).tr (ab_kp.of_fr (w2.sub (fun b hb => by rw [List.mem_singleton.mp hb]; exact md_inL.1))))
      cases hp : isPlaceF x y
      · refine hV (fun p => p == 19) 80 _ _ _ _ _ _ ?_
        simp only [c', hP1, hb1, hp, bI_in, bI_0, bI_1, bI_t, bI_f, bI_01, Tr_X4_isPlace, Tr_X4_fail, ae_aload_n, ae_iconst, ae_ifCond, ae_iload_n, ae_invokestatic, ae_invokevirtual, ae_ireturn, dX4_board_5, dX4_board_6, dX4_board_7, dX4_board_10, dX4_board_13, dX4_board_14, dX4_board_15, dX4_board_18, ca_X4_board_44, ca_X4_board_58, ca_X4_board_48, ab_wp0, ab_wps, ab_stp, ab_g, ab_st, ab_k2, ab_cl, ab_pop, ab_sz, ab_2, ab_ret, ab_f4, ab_tg, ab_I, ab_II, ab_A, ab_Rf, ab_VR, ab_IR, ab_VIR, ab_1, ab_LL, ab_DD, ab_ob, ab_pr, ab_qr, ab_ln, ab_so, ab_vI, ab_vA, ab_vD, ab_vL, ab_v2, ab_c, ab_fit, ab_rv, ab_tsw, ab_lsw, ab_up_eq, Fin.isValue, ab_f0, ab_f1, ab_f2, ab_f3, List.getElem?_cons_zero, List.getElem?_cons_succ, List.set_cons_zero, List.set_cons_succ, List.length_cons, List.length_nil, List.size_toArray, List.head?_cons, List.tail_cons, Option.map_some, cond_true, cond_false, true_and, and_true, false_and, and_false, not_true_eq_false, not_false_eq_true, true_imp_iff, false_imp_iff, if_true, if_false, ite_true, ite_false, ↓reduceIte, Nat.reduceAdd, Nat.reduceEqDiff, Nat.reduceLeDiff, Nat.reduceLT, Nat.reduceBEq, Nat.reduceBNe, Int.reduceAdd, Int.reduceNeg, Int.reduceSub, Int.reduceLE, Int.reduceLT, Int.reduceToNat, Int.reduceEq, Int.reduceMul, Int.cast_ofNat_Int, Nat.zero_add, Nat.add_zero, Nat.le_refl, eq_self, ne_eq, reduceCtorEq, or_true, true_or, or_false, false_or, Bool.or_true, Bool.or_false, Bool.true_or, Bool.false_or, Nat.zero_le, Int.le_refl, Int.ofNat_zero, Int.ofNat_one, Bool.false_eq_true]
        try simp only [ab_in] at hs ⊢
        (repeat' (first | intro _ | refine And.intro ?_ ?_)) <;> (first | exact x1 hp _ (by assumption) (by assumption) | contradiction | omega | (exfalso; omega))
      · have hp3 : 0 ≤ x ∧ x < 12 ∧ 0 ≤ y ∧ y < 8 := of_decide_eq_true hp
        have hv := g2 (12 * y + x) (by omega) (by omega)
        have yy := hK0 hp _ _ (md_of (md_s2 hm1 (ab_uf f2 (12 * y + x) 0))) rfl ((ab_kp.of_fr fr1).up (by simp [mdL]))
        dsimp only at yy
        refine hV (fun p => p == 29) 80 _ _ _ _ _ _ ?_
        simp only [c', hP1, hb1, hp, c2', hv, bI_in, bI_0, bI_1, bI_t, bI_f, bI_01, Tr_X4_isPlace, Tr_X4_slateAt, ae_aload_n, ae_bipush, ae_getfield, ae_iadd, ae_iaload, ae_iastore, ae_iconst, ae_ifCond, ae_if_icmp, ae_iload_n, ae_imul, ae_invokestatic, ae_invokevirtual, ae_ireturn, ae_istore_n, dX4_board_5, dX4_board_6, dX4_board_7, dX4_board_10, dX4_board_13, dX4_board_14, dX4_board_15, dX4_board_18, dX4_board_19, dX4_board_20, dX4_board_21, dX4_board_22, dX4_board_25, dX4_board_26, dX4_board_29, dX4_board_30, dX4_board_31, dX4_board_34, dX4_board_35, dX4_board_36, dX4_board_39, dX4_board_41, dX4_board_42, dX4_board_43, dX4_board_44, dX4_board_45, dX4_board_46, dX4_board_47, dX4_board_48, dX4_board_51, dX4_board_53, dX4_board_54, dX4_board_55, dX4_board_56, dX4_board_57, dX4_board_58, dX4_board_59, dX4_board_60, tbX4_g16, ca_X4_board_44, ca_X4_board_58, ca_X4_board_48, ab_wp0, ab_wps, ab_stp, ab_g, ab_st, ab_k2, ab_cl, ab_pop, ab_sz, ab_2, ab_ret, ab_f4, ab_tg, ab_I, ab_II, ab_A, ab_Rf, ab_VR, ab_IR, ab_VIR, ab_1, ab_LL, ab_DD, ab_ob, ab_pr, ab_qr, ab_ln, ab_so, ab_vI, ab_vA, ab_vD, ab_vL, ab_v2, ab_c, ab_fit, ab_rv, ab_tsw, ab_lsw, ab_up_eq, Fin.isValue, ab_f0, ab_f1, ab_f2, ab_f3, List.getElem?_cons_zero, List.getElem?_cons_succ, List.set_cons_zero, List.set_cons_succ, List.length_cons, List.length_nil, List.size_toArray, List.head?_cons, List.tail_cons, Option.map_some, cond_true, cond_false, true_and, and_true, false_and, and_false, not_true_eq_false, not_false_eq_true, true_imp_iff, false_imp_iff, if_true, if_false, ite_true, ite_false, ↓reduceIte, Nat.reduceAdd, Nat.reduceEqDiff, Nat.reduceLeDiff, Nat.reduceLT, Nat.reduceBEq, Nat.reduceBNe, Int.reduceAdd, Int.reduceNeg, Int.reduceSub, Int.reduceLE, Int.reduceLT, Int.reduceToNat, Int.reduceEq, Int.reduceMul, Int.cast_ofNat_Int, Nat.zero_add, Nat.add_zero, Nat.le_refl, eq_self, ne_eq, reduceCtorEq, or_true, true_or, or_false, false_or, Bool.or_true, Bool.or_false, Bool.true_or, Bool.false_or, Nat.zero_le, Int.le_refl, Int.ofNat_zero, Int.ofNat_one, Bool.false_eq_true]
        try simp only [ab_in] at hs ⊢
        (repeat' (first | intro _ | refine And.intro ?_ ?_)) <;> (first | exact yy | contradiction | omega | (exfalso; omega))
    have hb0 := body _ (md_of (md_thr hm 0)) (ab_fr.rf.up md_inL.1)
    dsimp only [mdC] at hb0
    refine hV (fun p => p == 5) 80 _ _ _ _ _ _ ?_
    simp only [c, ae_aload_n, ae_iconst, ae_putfield, dX4_board_0, dX4_board_1, dX4_board_2, tbX4_p29, ca_X4_board_44, ca_X4_board_58, ca_X4_board_48, ab_wp0, ab_wps, ab_stp, ab_g, ab_st, ab_k2, ab_cl, ab_pop, ab_sz, ab_2, ab_ret, ab_f4, ab_tg, ab_I, ab_II, ab_A, ab_Rf, ab_VR, ab_IR, ab_VIR, ab_1, ab_LL, ab_DD, ab_ob, ab_pr, ab_qr, ab_ln, ab_so, ab_vI, ab_vA, ab_vD, ab_vL, ab_v2, ab_c, ab_fit, ab_rv, ab_tsw, ab_lsw, ab_up_eq, Fin.isValue, ab_f0, ab_f1, ab_f2, ab_f3, List.getElem?_cons_zero, List.getElem?_cons_succ, List.set_cons_zero, List.set_cons_succ, List.length_cons, List.length_nil, List.size_toArray, List.head?_cons, List.tail_cons, Option.map_some, cond_true, cond_false, true_and, and_true, false_and, and_false, not_true_eq_false, not_false_eq_true, true_imp_iff, false_imp_iff, if_true, if_false, ite_true, ite_false, ↓reduceIte, Nat.reduceAdd, Nat.reduceEqDiff, Nat.reduceLeDiff, Nat.reduceLT, Nat.reduceBEq, Nat.reduceBNe, Int.reduceAdd, Int.reduceNeg, Int.reduceSub, Int.reduceLE, Int.reduceLT, Int.reduceToNat, Int.reduceEq, Int.reduceMul, Int.cast_ofNat_Int, Nat.zero_add, Nat.add_zero, Nat.le_refl, eq_self, ne_eq, reduceCtorEq, or_true, true_or, or_false, false_or, Bool.or_true, Bool.or_false, Bool.true_or, Bool.false_or, Nat.zero_le, Int.le_refl, Int.ofNat_zero, Int.ofNat_one, Bool.false_eq_true]
    exact hb0
  · exact hT.elim
set_option maxRecDepth 100000 in
theorem con_X4_board (l : Launch) (D : va_G) (ty : Nat → ClassId) (base : Nat) : ab_Con l D vwCl ty lw_ts base lw_wd yX4_board cX4_board 4 (some .int) 3 65 0 0 Tr_X4_board :=
  ab_con_of (own := RX4) (rt := 1) (tb := tbX4) (ini := false) (ca := ca_X4_board) (by decide +kernel) rfl (fun h => by cases h) rfl lw_wd_ok wtbX4 lw_ar cm_X4_board
    (fun p e R s m args below meth c K hcx => by
      obtain ⟨hx, hb, hml, hown, hF, rfl⟩ := hcx
      exact ab_lk_all (ab_all_c (ab_tc_S hx hb hml hown lw_wd_ok hF ⟨rfl, rfl⟩ (con_X4_isPlace l D ty base) (lw_wi (by decide +kernel) (by decide +kernel)) (lw_wi (by decide +kernel) (by decide +kernel)) (lw_wi (by decide +kernel) (by decide +kernel)) (lw_wi (by decide +kernel) (by decide +kernel)) (by decide +kernel) ⟨by decide, by decide⟩) (ab_all_c (ab_tc_V hx hb hml hown lw_wd_ok hF ⟨rfl, rfl⟩ (con_X4_fail l D ty base) rfl (lw_wi (by decide +kernel) (by decide +kernel)) (lw_wi (by decide +kernel) (by decide +kernel)) (lw_wi (by decide +kernel) (by decide +kernel)) (lw_wi (by decide +kernel) (by decide +kernel)) (lw_wi (by decide +kernel) (by decide +kernel)) (by decide +kernel) ⟨by decide, by decide⟩) (ab_all_c (ab_tc_V hx hb hml hown lw_wd_ok hF ⟨rfl, rfl⟩ (con_X4_slateAt l D ty base) rfl (lw_wi (by decide +kernel) (by decide +kernel)) (lw_wi (by decide +kernel) (by decide +kernel)) (lw_wi (by decide +kernel) (by decide +kernel)) (lw_wi (by decide +kernel) (by decide +kernel)) (lw_wi (by decide +kernel) (by decide +kernel)) (by decide +kernel) ⟨by decide, by decide⟩) (ab_all_n)))))
    (by intro as h K ht; unfold Tr_X4_board at ht; split at ht <;> first | exact ht.elim | exact Nat.le_of_ble_eq_true rfl) (sem_X4_board base)
theorem lw0 : 0 ∈ lw_ts := by decide
theorem md_s3 {h : AH} {a : Nat} {B : MA} {th sl : Int} {f0 f1 f2 f3 f4 f5 : Int → Int} (hm : mdAt h a (B, (th, sl, f0, f1, f2, f3, f4, f5))) (g : Int → Int) : mdAt (ab_up h B.2.2.2.1 (.inr (.inl (0, 28, g)))) a (B, (th, sl, f0, f1, f2, g, f4, f5)) := by
  obtain ⟨b0, b1, b2, b3, b4, b5⟩ := B
  have nd := md_nd hm
  obtain ⟨d, d0, d1, d2, d3, d4, d5, ne⟩ := hm
  dsimp only [mdC] at d d0 d1 d2 d3 d4 d5 ne
  refine ⟨?_, ?_, ?_, ?_, ?_, ?_, ?_, ne⟩ <;> dsimp only [mdC] <;> simp only [ab_up_ap, nd, if_false, if_true] <;> assumption
theorem md_sl {h : AH} {a : Nat} {B : MA} {v : MV} (hm : mdAt h a (B, v)) (n : Int) : mdAt (ab_up h a (.inl (4, mdC B (v.1, n, v.2.2)))) a (B, (v.1, n, v.2.2)) := by
  obtain ⟨b0, b1, b2, b3, b4, b5⟩ := B
  have nd := md_nd hm
  obtain ⟨d, d0, d1, d2, d3, d4, d5, ne⟩ := hm
  dsimp only at d d0 d1 d2 d3 d4 d5 ne
  refine ⟨ab_up_eq _ _ _, ?_, ?_, ?_, ?_, ?_, ?_, ne⟩ <;> dsimp only <;> simp only [ab_up_ap, nd, if_false] <;> assumption
theorem md_nw {h : AH} {a q : Nat} {P : MA × MV} {c : AC} (hm : mdAt h a P) (hq : h q = none) : mdAt (ab_up h q c) a P := md_kp0 hm (fun b hb => by rw [ab_up_ap, if_neg (fun z => hb (by rw [z]; exact hq))])
noncomputable def Tr_X4_setDay : ATr := fun as h K => match as with
  | [.inr (.inl (some a)), .inl day, .inl force, .inl right, .inl hail, .inl rain] => ab_so (ab_md h a) fun P => (bareV P.2 ∧ P.2.fnm 0 = 0 ∧ (ab_in day ∧ ab_in force ∧ ab_in right ∧ ab_in hail ∧ ab_in rain ∧ (right = 0 ∨ right = 1))) ∧ (isUpToF day 6 = true ∧ isUpToF force 20 = true ∧ isUpToF hail 9 = true ∧ isUpToF rain 9 = true → ∀ h' v', ab_md h' a = some (P.1, v') → v'.thr = 0 → ab_kp h h' (mdL a P.1) → K (some (.inl (0))) h') ∧ (isUpToF day 6 = false → ∀ h' v', ab_md h' a = some (P.1, v') → v'.thr = 1 → ab_kp h h' (mdL a P.1) → K (some (.inl (0))) h') ∧ (isUpToF day 6 = true ∧ (isUpToF force 20 = false ∨ isUpToF hail 9 = false ∨ isUpToF rain 9 = false) → ∀ h' v', ab_md h' a = some (P.1, v') → v'.thr = 2 → ab_kp h h' (mdL a P.1) → K (some (.inl (0))) h')
  | _ => False
theorem mo_X4_setDay : ab_mo Tr_X4_setDay := by
  intro as h K K' hk ht
  unfold Tr_X4_setDay at ht ⊢
  split at ht
  · exact ab_so_mo (fun P q => ⟨q.1, fun e h' v' e1 e2 e3 => hk _ _ (q.2.1 e h' v' e1 e2 e3), fun e h' v' e1 e2 e3 => hk _ _ (q.2.2.1 e h' v' e1 e2 e3), fun e h' v' e1 e2 e3 => hk _ _ (q.2.2.2 e h' v' e1 e2 e3)⟩) ht
  · exact ht.elim
def ca_X4_setDay : Nat → Option ACS := ab_lk [(36, (2, 0, 3, 0, 0, Tr_X4_isIn)), (58, (0, 4, 2, 0, 0, Tr_X4_fail)), (97, (0, 4, 2, 0, 0, Tr_X4_dayTold)), (69, (2, 0, 5, 0, 0, Tr_copy))]
theorem ca_X4_setDay_36 : ca_X4_setDay 36 = some (2, 0, 3, 0, 0, Tr_X4_isIn) := rfl
theorem ca_X4_setDay_58 : ca_X4_setDay 58 = some (0, 4, 2, 0, 0, Tr_X4_fail) := rfl
theorem ca_X4_setDay_97 : ca_X4_setDay 97 = some (0, 4, 2, 0, 0, Tr_X4_dayTold) := rfl
theorem ca_X4_setDay_69 : ca_X4_setDay 69 = some (2, 0, 5, 0, 0, Tr_copy) := rfl
theorem cm_X4_setDay : ∀ i q, ca_X4_setDay i = some q → ab_moq i q := ab_lk_all (ab_all_c mo_X4_isIn (ab_all_c mo_X4_fail (ab_all_c mo_X4_dayTold (ab_all_c Tr_copy_mo (ab_all_n)))))
set_option maxRecDepth 100000 in
set_option maxHeartbeats 4000000 in
theorem sem_X4_setDay (base : Nat) : ab_Sem tbX4 lw_ts base cX4_setDay ca_X4_setDay 1 8 1 4 (fun as => ab_en as 8) Tr_X4_setDay := by
  intro as h K hT V hV
  unfold Tr_X4_setDay at hT
  split at hT
  · rename_i a day force right hail rain
    obtain ⟨⟨⟨b0, b1, b2, b3, b4, b5⟩, th, sl, f0, f1, f2, f3, f4, f5⟩, hP, ⟨hb, hs⟩, hK⟩ := ab_so_el hT
    obtain ⟨g0, g1, g2, g3, g4, g5⟩ := id hb
    dsimp only [MV.thr, MV.sl, MV.fst9, MV.fat, MV.frt, MV.ftb, MV.fnm, MV.fmk] at g0 g1 g2 g3 g4 g5 hK hs
    subst g0
    have hm := md_el hP
    obtain ⟨c, c0, c1, c2, c3, c4, c5, -⟩ := id hm
    dsimp only [mdC, MV.thr, MV.sl, MV.fst9, MV.fat, MV.frt, MV.ftb, MV.fnm, MV.fmk] at c c0 c1 c2 c3 c4 c5
    show V 0 [some (.inr (.inl (some a))), some (.inl day), some (.inl force), some (.inl right), some (.inl hail), some (.inl rain), none, none] [] h 0 0
    obtain ⟨g6, hs⟩ := hs
    obtain ⟨hK0, hK1, hK2⟩ := hK
    have body : ∀ h1, ab_md h1 a = some ((b0, b1, b2, b3, b4, b5), (0, 0, f0, f1, f2, f3, f4, f5)) → ab_fr h h1 (mdL a (b0, b1, b2, b3, b4, b5)) → V 5 [some (.inr (.inl (some a))), some (.inl day), some (.inl force), some (.inl right), some (.inl hail), some (.inl rain), none, none] [] h1 0 0 := by
      intro h1 hP1 fr1
      have hm1 := md_el hP1
      have hb1 : bareV (0, 0, f0, f1, f2, f3, f4, f5) := hb
      obtain ⟨c', c0', c1', c2', c3', c4', c5', -⟩ := id hm1
      dsimp only [mdC, MV.thr, MV.sl, MV.fst9, MV.fat, MV.frt, MV.ftb, MV.fnm, MV.fmk] at c' c0' c1' c2' c3' c4' c5'
      have y0 : isUpToF day 6 = true ∧ isUpToF force 20 = true ∧ isUpToF hail 9 = true ∧ isUpToF rain 9 = true → K (some (.inl (0))) h1 := fun e => hK0 e h1 _ hP1 rfl (ab_kp.of_fr fr1)
      have x1 : isUpToF day 6 = false → ∀ h2, ab_md h2 a = some ((b0, b1, b2, b3, b4, b5), (1, 0, f0, f1, f2, f3, f4, f5)) → ab_fr h1 h2 [a] → K (some (.inl 0)) h2 := fun e h2 w1 w2 => hK1 e h2 _ w1 rfl ((ab_kp.of_fr fr1).tr (ab_kp.of_fr (w2.sub (fun b hb => by rw [List.mem_singleton.mp hb]; exact md_inL.1))))
      have x2 : isUpToF day 6 = true ∧ (isUpToF force 20 = false ∨ isUpToF hail 9 = false ∨ isUpToF rain 9 = false) → ∀ h2, ab_md h2 a = some ((b0, b1, b2, b3, b4, b5), (2, 0, f0, f1, f2, f3, f4, f5)) → ab_fr h1 h2 [a] → K (some (.inl 0)) h2 := fun e h2 w1 w2 => hK2 e h2 _ w1 rfl ((ab_kp.of_fr fr1).tr (ab_kp.of_fr (w2.sub (fun b hb => by rw [List.mem_singleton.mp hb]; exact md_inL.1))))
      cases h9 : isUpToF day 6
      · have h1' : decide (0 ≤ day ∧ day ≤ 6) = false := h9
        refine hV (fun p => p == 21) 80 _ _ _ _ _ _ ?_
        simp only [c', hP1, hb1, h1', bI_in, bI_0, bI_1, bI_t, bI_f, bI_01, Tr_X4_isIn, Tr_X4_fail, ae_aload_n, ae_bipush, ae_iconst, ae_ifCond, ae_iload_n, ae_invokestatic, ae_invokevirtual, ae_ireturn, dX4_setDay_5, dX4_setDay_6, dX4_setDay_7, dX4_setDay_9, dX4_setDay_12, dX4_setDay_15, dX4_setDay_16, dX4_setDay_17, dX4_setDay_20, ca_X4_setDay_36, ca_X4_setDay_58, ca_X4_setDay_97, ca_X4_setDay_69, ab_wp0, ab_wps, ab_stp, ab_g, ab_st, ab_k2, ab_cl, ab_pop, ab_sz, ab_2, ab_ret, ab_f4, ab_tg, ab_I, ab_II, ab_A, ab_Rf, ab_VR, ab_IR, ab_VIR, ab_1, ab_LL, ab_DD, ab_ob, ab_pr, ab_qr, ab_ln, ab_so, ab_vI, ab_vA, ab_vD, ab_vL, ab_v2, ab_c, ab_fit, ab_rv, ab_tsw, ab_lsw, ab_up_eq, Fin.isValue, ab_f0, ab_f1, ab_f2, ab_f3, List.getElem?_cons_zero, List.getElem?_cons_succ, List.set_cons_zero, List.set_cons_succ, List.length_cons, List.length_nil, List.size_toArray, List.head?_cons, List.tail_cons, Option.map_some, cond_true, cond_false, true_and, and_true, false_and, and_false, not_true_eq_false, not_false_eq_true, true_imp_iff, false_imp_iff, if_true, if_false, ite_true, ite_false, ↓reduceIte, Nat.reduceAdd, Nat.reduceEqDiff, Nat.reduceLeDiff, Nat.reduceLT, Nat.reduceBEq, Nat.reduceBNe, Int.reduceAdd, Int.reduceNeg, Int.reduceSub, Int.reduceLE, Int.reduceLT, Int.reduceToNat, Int.reduceEq, Int.reduceMul, Int.cast_ofNat_Int, Nat.zero_add, Nat.add_zero, Nat.le_refl, eq_self, ne_eq, reduceCtorEq, or_true, true_or, or_false, false_or, Bool.or_true, Bool.or_false, Bool.true_or, Bool.false_or, Nat.zero_le, Int.le_refl, Int.ofNat_zero, Int.ofNat_one, Bool.false_eq_true]
        try simp only [ab_in] at hs ⊢
        (repeat' (first | intro _ | refine And.intro ?_ ?_)) <;> (first | exact x1 h9 _ (by assumption) (by assumption) | contradiction | omega | (exfalso; omega))
      · have h1' : decide (0 ≤ day ∧ day ≤ 6) = true := h9
        cases h8 : isUpToF force 20
        · have h2' : decide (0 ≤ force ∧ force ≤ 20) = false := h8
          refine hV (fun p => p == 59) 80 _ _ _ _ _ _ ?_
          simp only [c', hP1, hb1, h1', h2', bI_in, bI_0, bI_1, bI_t, bI_f, bI_01, Tr_X4_isIn, Tr_X4_fail, ae_aload_n, ae_bipush, ae_iconst, ae_ifCond, ae_iload, ae_iload_n, ae_invokestatic, ae_invokevirtual, ae_ireturn, dX4_setDay_5, dX4_setDay_6, dX4_setDay_7, dX4_setDay_9, dX4_setDay_12, dX4_setDay_15, dX4_setDay_16, dX4_setDay_17, dX4_setDay_20, dX4_setDay_21, dX4_setDay_22, dX4_setDay_23, dX4_setDay_25, dX4_setDay_28, dX4_setDay_31, dX4_setDay_33, dX4_setDay_34, dX4_setDay_36, dX4_setDay_39, dX4_setDay_42, dX4_setDay_44, dX4_setDay_45, dX4_setDay_47, dX4_setDay_50, dX4_setDay_53, dX4_setDay_54, dX4_setDay_55, dX4_setDay_58, ca_X4_setDay_36, ca_X4_setDay_58, ca_X4_setDay_97, ca_X4_setDay_69, ab_wp0, ab_wps, ab_stp, ab_g, ab_st, ab_k2, ab_cl, ab_pop, ab_sz, ab_2, ab_ret, ab_f4, ab_tg, ab_I, ab_II, ab_A, ab_Rf, ab_VR, ab_IR, ab_VIR, ab_1, ab_LL, ab_DD, ab_ob, ab_pr, ab_qr, ab_ln, ab_so, ab_vI, ab_vA, ab_vD, ab_vL, ab_v2, ab_c, ab_fit, ab_rv, ab_tsw, ab_lsw, ab_up_eq, Fin.isValue, ab_f0, ab_f1, ab_f2, ab_f3, List.getElem?_cons_zero, List.getElem?_cons_succ, List.set_cons_zero, List.set_cons_succ, List.length_cons, List.length_nil, List.size_toArray, List.head?_cons, List.tail_cons, Option.map_some, cond_true, cond_false, true_and, and_true, false_and, and_false, not_true_eq_false, not_false_eq_true, true_imp_iff, false_imp_iff, if_true, if_false, ite_true, ite_false, ↓reduceIte, Nat.reduceAdd, Nat.reduceEqDiff, Nat.reduceLeDiff, Nat.reduceLT, Nat.reduceBEq, Nat.reduceBNe, Int.reduceAdd, Int.reduceNeg, Int.reduceSub, Int.reduceLE, Int.reduceLT, Int.reduceToNat, Int.reduceEq, Int.reduceMul, Int.cast_ofNat_Int, Nat.zero_add, Nat.add_zero, Nat.le_refl, eq_self, ne_eq, reduceCtorEq, or_true, true_or, or_false, false_or, Bool.or_true, Bool.or_false, Bool.true_or, Bool.false_or, Nat.zero_le, Int.le_refl, Int.ofNat_zero, Int.ofNat_one, Bool.false_eq_true]
          try simp only [ab_in] at hs ⊢
          (repeat' (first | intro _ | refine And.intro ?_ ?_)) <;> (first | exact x2 ⟨h9, Or.inl h8⟩ _ (by assumption) (by assumption) | contradiction | omega | (exfalso; omega))
        · have h2' : decide (0 ≤ force ∧ force ≤ 20) = true := h8
          cases h7 : isUpToF hail 9
          · have h3' : decide (0 ≤ hail ∧ hail ≤ 9) = false := h7
            refine hV (fun p => p == 59) 80 _ _ _ _ _ _ ?_
            simp only [c', hP1, hb1, h1', h2', h3', bI_in, bI_0, bI_1, bI_t, bI_f, bI_01, Tr_X4_isIn, Tr_X4_fail, ae_aload_n, ae_bipush, ae_iconst, ae_ifCond, ae_iload, ae_iload_n, ae_invokestatic, ae_invokevirtual, ae_ireturn, dX4_setDay_5, dX4_setDay_6, dX4_setDay_7, dX4_setDay_9, dX4_setDay_12, dX4_setDay_15, dX4_setDay_16, dX4_setDay_17, dX4_setDay_20, dX4_setDay_21, dX4_setDay_22, dX4_setDay_23, dX4_setDay_25, dX4_setDay_28, dX4_setDay_31, dX4_setDay_33, dX4_setDay_34, dX4_setDay_36, dX4_setDay_39, dX4_setDay_42, dX4_setDay_44, dX4_setDay_45, dX4_setDay_47, dX4_setDay_50, dX4_setDay_53, dX4_setDay_54, dX4_setDay_55, dX4_setDay_58, ca_X4_setDay_36, ca_X4_setDay_58, ca_X4_setDay_97, ca_X4_setDay_69, ab_wp0, ab_wps, ab_stp, ab_g, ab_st, ab_k2, ab_cl, ab_pop, ab_sz, ab_2, ab_ret, ab_f4, ab_tg, ab_I, ab_II, ab_A, ab_Rf, ab_VR, ab_IR, ab_VIR, ab_1, ab_LL, ab_DD, ab_ob, ab_pr, ab_qr, ab_ln, ab_so, ab_vI, ab_vA, ab_vD, ab_vL, ab_v2, ab_c, ab_fit, ab_rv, ab_tsw, ab_lsw, ab_up_eq, Fin.isValue, ab_f0, ab_f1, ab_f2, ab_f3, List.getElem?_cons_zero, List.getElem?_cons_succ, List.set_cons_zero, List.set_cons_succ, List.length_cons, List.length_nil, List.size_toArray, List.head?_cons, List.tail_cons, Option.map_some, cond_true, cond_false, true_and, and_true, false_and, and_false, not_true_eq_false, not_false_eq_true, true_imp_iff, false_imp_iff, if_true, if_false, ite_true, ite_false, ↓reduceIte, Nat.reduceAdd, Nat.reduceEqDiff, Nat.reduceLeDiff, Nat.reduceLT, Nat.reduceBEq, Nat.reduceBNe, Int.reduceAdd, Int.reduceNeg, Int.reduceSub, Int.reduceLE, Int.reduceLT, Int.reduceToNat, Int.reduceEq, Int.reduceMul, Int.cast_ofNat_Int, Nat.zero_add, Nat.add_zero, Nat.le_refl, eq_self, ne_eq, reduceCtorEq, or_true, true_or, or_false, false_or, Bool.or_true, Bool.or_false, Bool.true_or, Bool.false_or, Nat.zero_le, Int.le_refl, Int.ofNat_zero, Int.ofNat_one, Bool.false_eq_true]
            try simp only [ab_in] at hs ⊢
            (repeat' (first | intro _ | refine And.intro ?_ ?_)) <;> (first | exact x2 ⟨h9, Or.inr (Or.inl h7)⟩ _ (by assumption) (by assumption) | contradiction | omega | (exfalso; omega))
          · have h3' : decide (0 ≤ hail ∧ hail ≤ 9) = true := h7
            cases h6 : isUpToF rain 9
            · have h4' : decide (0 ≤ rain ∧ rain ≤ 9) = false := h6
              refine hV (fun p => p == 59) 80 _ _ _ _ _ _ ?_
              simp only [c', hP1, hb1, h1', h2', h3', h4', bI_in, bI_0, bI_1, bI_t, bI_f, bI_01, Tr_X4_isIn, Tr_X4_fail, ae_aload_n, ae_bipush, ae_iconst, ae_ifCond, ae_iload, ae_iload_n, ae_invokestatic, ae_invokevirtual, ae_ireturn, dX4_setDay_5, dX4_setDay_6, dX4_setDay_7, dX4_setDay_9, dX4_setDay_12, dX4_setDay_15, dX4_setDay_16, dX4_setDay_17, dX4_setDay_20, dX4_setDay_21, dX4_setDay_22, dX4_setDay_23, dX4_setDay_25, dX4_setDay_28, dX4_setDay_31, dX4_setDay_33, dX4_setDay_34, dX4_setDay_36, dX4_setDay_39, dX4_setDay_42, dX4_setDay_44, dX4_setDay_45, dX4_setDay_47, dX4_setDay_50, dX4_setDay_53, dX4_setDay_54, dX4_setDay_55, dX4_setDay_58, ca_X4_setDay_36, ca_X4_setDay_58, ca_X4_setDay_97, ca_X4_setDay_69, ab_wp0, ab_wps, ab_stp, ab_g, ab_st, ab_k2, ab_cl, ab_pop, ab_sz, ab_2, ab_ret, ab_f4, ab_tg, ab_I, ab_II, ab_A, ab_Rf, ab_VR, ab_IR, ab_VIR, ab_1, ab_LL, ab_DD, ab_ob, ab_pr, ab_qr, ab_ln, ab_so, ab_vI, ab_vA, ab_vD, ab_vL, ab_v2, ab_c, ab_fit, ab_rv, ab_tsw, ab_lsw, ab_up_eq, Fin.isValue, ab_f0, ab_f1, ab_f2, ab_f3, List.getElem?_cons_zero, List.getElem?_cons_succ, List.set_cons_zero, List.set_cons_succ, List.length_cons, List.length_nil, List.size_toArray, List.head?_cons, List.tail_cons, Option.map_some, cond_true, cond_false, true_and, and_true, false_and, and_false, not_true_eq_false, not_false_eq_true, true_imp_iff, false_imp_iff, if_true, if_false, ite_true, ite_false, ↓reduceIte, Nat.reduceAdd, Nat.reduceEqDiff, Nat.reduceLeDiff, Nat.reduceLT, Nat.reduceBEq, Nat.reduceBNe, Int.reduceAdd, Int.reduceNeg, Int.reduceSub, Int.reduceLE, Int.reduceLT, Int.reduceToNat, Int.reduceEq, Int.reduceMul, Int.cast_ofNat_Int, Nat.zero_add, Nat.add_zero, Nat.le_refl, eq_self, ne_eq, reduceCtorEq, or_true, true_or, or_false, false_or, Bool.or_true, Bool.or_false, Bool.true_or, Bool.false_or, Nat.zero_le, Int.le_refl, Int.ofNat_zero, Int.ofNat_one, Bool.false_eq_true]
              try simp only [ab_in] at hs ⊢
              (repeat' (first | intro _ | refine And.intro ?_ ?_)) <;> (first | exact x2 ⟨h9, Or.inr (Or.inr h6)⟩ _ (by assumption) (by assumption) | contradiction | omega | (exfalso; omega))
            · have h4' : decide (0 ≤ rain ∧ rain ≤ 9) = true := h6
              have h1q := of_decide_eq_true h1'
              have l69 : ∀ q, h1 q = none → V 69 [some (.inr (.inl (some a))), some (.inl day), some (.inl force), some (.inl right), some (.inl hail), some (.inl rain), some (.inl 0), none] [.inr (.inl (some q))] (ab_up h1 q (.inr (.inl (0, 4, fun _ => 0)))) 1 4 := by
                intro q hq
                have ea := ab_none_ne c' hq
                have e3 := ab_none_ne c3' hq
                have nx : ∀ (G : AC) (h2 : AH) (F : Int → Int), (∀ b, h1 b ≠ none → h2 b = h1 b) → K (some (.inl 0)) (ab_up h2 b3 (.inr (.inl (0, 28, F)))) := fun G h2 F hkp2 =>
                  hK0 ⟨h9, h8, h7, h6⟩ _ _ (md_of (md_s3 (md_kp0 hm1 hkp2) F)) rfl ((ab_kp.tr (ab_kp.of_fr fr1) (fun b hb _ => hkp2 b hb)).up (by simp [mdL]))
                have kq : ∀ (X0 X1 X2 X3 X4 : AC) b, h1 b ≠ none → ab_up (ab_up (ab_up (ab_up (ab_up h1 q X0) q X1) q X2) q X3) q X4 b = h1 b := fun X0 X1 X2 X3 X4 b hb => by
                  have : ¬ b = q := fun z => hb (by rw [z]; exact hq)
                  simp only [ab_up_ap, this, if_false]
                rcases (show right = 0 ∨ right = 1 from hs.2.2.2.2.2) with hr | hr
                all_goals
                  subst hr
                  refine hV (fun _ => false) 80 _ _ _ _ _ _ ?_
                  simp only [ab_up_ap, ea, e3, c', c3', bI_in, bI_0, bI_1, bI_t, bI_f, bI_01, Tr_copy, ae_aload, ae_aload_n, ae_astore, ae_dup, ae_getfield, ae_goto, ae_iastore, ae_iconst, ae_ifCond, ae_iload, ae_iload_n, ae_imul, ae_invokestatic, ae_ireturn, dX4_setDay_69, dX4_setDay_70, dX4_setDay_71, dX4_setDay_72, dX4_setDay_73, dX4_setDay_74, dX4_setDay_75, dX4_setDay_76, dX4_setDay_79, dX4_setDay_80, dX4_setDay_83, dX4_setDay_84, dX4_setDay_85, dX4_setDay_86, dX4_setDay_87, dX4_setDay_89, dX4_setDay_90, dX4_setDay_91, dX4_setDay_92, dX4_setDay_94, dX4_setDay_95, dX4_setDay_97, dX4_setDay_99, dX4_setDay_100, dX4_setDay_101, dX4_setDay_104, dX4_setDay_105, dX4_setDay_106, dX4_setDay_107, dX4_setDay_108, dX4_setDay_111, dX4_setDay_113, tbX4_g19, ca_X4_setDay_36, ca_X4_setDay_58, ca_X4_setDay_97, ca_X4_setDay_69, ab_wp0, ab_wps, ab_stp, ab_g, ab_st, ab_k2, ab_cl, ab_pop, ab_sz, ab_2, ab_ret, ab_f4, ab_tg, ab_I, ab_II, ab_A, ab_Rf, ab_VR, ab_IR, ab_VIR, ab_1, ab_LL, ab_DD, ab_ob, ab_pr, ab_qr, ab_ln, ab_so, ab_vI, ab_vA, ab_vD, ab_vL, ab_v2, ab_c, ab_fit, ab_rv, ab_tsw, ab_lsw, ab_up_eq, Fin.isValue, ab_f0, ab_f1, ab_f2, ab_f3, List.getElem?_cons_zero, List.getElem?_cons_succ, List.set_cons_zero, List.set_cons_succ, List.length_cons, List.length_nil, List.size_toArray, List.head?_cons, List.tail_cons, Option.map_some, cond_true, cond_false, true_and, and_true, false_and, and_false, not_true_eq_false, not_false_eq_true, true_imp_iff, false_imp_iff, if_true, if_false, ite_true, ite_false, ↓reduceIte, Nat.reduceAdd, Nat.reduceEqDiff, Nat.reduceLeDiff, Nat.reduceLT, Nat.reduceBEq, Nat.reduceBNe, Int.reduceAdd, Int.reduceNeg, Int.reduceSub, Int.reduceLE, Int.reduceLT, Int.reduceToNat, Int.reduceEq, Int.reduceMul, Int.cast_ofNat_Int, Nat.zero_add, Nat.add_zero, Nat.le_refl, eq_self, ne_eq, reduceCtorEq, or_true, true_or, or_false, false_or, Bool.or_true, Bool.or_false, Bool.true_or, Bool.false_or, Nat.zero_le, Int.le_refl, Int.ofNat_zero, Int.ofNat_one, Bool.false_eq_true]
                  (repeat' (first | intro _ | refine And.intro ?_ ?_)) <;> (first | exact nx (.inl (0, [])) _ _ (kq _ _ _ _ _) | contradiction | omega | exact Int.ofNat_le.mp (by omega) | exact ea.2 | exact e3.1 | exact e3.2 | exact fun z => e3.1 z | exact fun z => e3.2 z | (exfalso; omega))
              refine hV (fun p => p == 69 || p == 53) 80 _ _ _ _ _ _ ?_
              simp only [c', hP1, hb1, h1', h2', h3', h4', ab_at_i, bI_in, bI_0, bI_1, bI_t, bI_f, bI_01, Tr_X4_isIn, Tr_X4_dayTold, ae_aload_n, ae_bipush, ae_iconst, ae_ifCond, ae_iload, ae_iload_n, ae_invokestatic, ae_invokevirtual, ae_ireturn, ae_istore, ae_newarray, dX4_setDay_5, dX4_setDay_6, dX4_setDay_7, dX4_setDay_9, dX4_setDay_12, dX4_setDay_15, dX4_setDay_16, dX4_setDay_17, dX4_setDay_20, dX4_setDay_21, dX4_setDay_22, dX4_setDay_23, dX4_setDay_25, dX4_setDay_28, dX4_setDay_31, dX4_setDay_33, dX4_setDay_34, dX4_setDay_36, dX4_setDay_39, dX4_setDay_42, dX4_setDay_44, dX4_setDay_45, dX4_setDay_47, dX4_setDay_50, dX4_setDay_53, dX4_setDay_54, dX4_setDay_55, dX4_setDay_58, dX4_setDay_59, dX4_setDay_60, dX4_setDay_61, dX4_setDay_64, dX4_setDay_66, dX4_setDay_67, ca_X4_setDay_36, ca_X4_setDay_58, ca_X4_setDay_97, ca_X4_setDay_69, ab_wp0, ab_wps, ab_stp, ab_g, ab_st, ab_k2, ab_cl, ab_pop, ab_sz, ab_2, ab_ret, ab_f4, ab_tg, ab_I, ab_II, ab_A, ab_Rf, ab_VR, ab_IR, ab_VIR, ab_1, ab_LL, ab_DD, ab_ob, ab_pr, ab_qr, ab_ln, ab_so, ab_vI, ab_vA, ab_vD, ab_vL, ab_v2, ab_c, ab_fit, ab_rv, ab_tsw, ab_lsw, ab_up_eq, Fin.isValue, ab_f0, ab_f1, ab_f2, ab_f3, List.getElem?_cons_zero, List.getElem?_cons_succ, List.set_cons_zero, List.set_cons_succ, List.length_cons, List.length_nil, List.size_toArray, List.head?_cons, List.tail_cons, Option.map_some, cond_true, cond_false, true_and, and_true, false_and, and_false, not_true_eq_false, not_false_eq_true, true_imp_iff, false_imp_iff, if_true, if_false, ite_true, ite_false, ↓reduceIte, Nat.reduceAdd, Nat.reduceEqDiff, Nat.reduceLeDiff, Nat.reduceLT, Nat.reduceBEq, Nat.reduceBNe, Int.reduceAdd, Int.reduceNeg, Int.reduceSub, Int.reduceLE, Int.reduceLT, Int.reduceToNat, Int.reduceEq, Int.reduceMul, Int.cast_ofNat_Int, Nat.zero_add, Nat.add_zero, Nat.le_refl, eq_self, ne_eq, reduceCtorEq, or_true, true_or, or_false, false_or, Bool.or_true, Bool.or_false, Bool.true_or, Bool.false_or, Nat.zero_le, Int.le_refl, Int.ofNat_zero, Int.ofNat_one, Bool.false_eq_true]
              try simp only [ab_in] at hs ⊢
              (repeat' (first | intro _ | refine And.intro ?_ ?_)) <;> (first | exact lw0 | exact l69 _ (by assumption) | contradiction | omega | (exfalso; omega))
    have hb0 := body _ (md_of (md_thr hm 0)) (ab_fr.rf.up md_inL.1)
    dsimp only [mdC] at hb0
    refine hV (fun p => p == 5) 80 _ _ _ _ _ _ ?_
    simp only [c, ae_aload_n, ae_iconst, ae_putfield, dX4_setDay_0, dX4_setDay_1, dX4_setDay_2, tbX4_p29, ca_X4_setDay_36, ca_X4_setDay_58, ca_X4_setDay_97, ca_X4_setDay_69, ab_wp0, ab_wps, ab_stp, ab_g, ab_st, ab_k2, ab_cl, ab_pop, ab_sz, ab_2, ab_ret, ab_f4, ab_tg, ab_I, ab_II, ab_A, ab_Rf, ab_VR, ab_IR, ab_VIR, ab_1, ab_LL, ab_DD, ab_ob, ab_pr, ab_qr, ab_ln, ab_so, ab_vI, ab_vA, ab_vD, ab_vL, ab_v2, ab_c, ab_fit, ab_rv, ab_tsw, ab_lsw, ab_up_eq, Fin.isValue, ab_f0, ab_f1, ab_f2, ab_f3, List.getElem?_cons_zero, List.getElem?_cons_succ, List.set_cons_zero, List.set_cons_succ, List.length_cons, List.length_nil, List.size_toArray, List.head?_cons, List.tail_cons, Option.map_some, cond_true, cond_false, true_and, and_true, false_and, and_false, not_true_eq_false, not_false_eq_true, true_imp_iff, false_imp_iff, if_true, if_false, ite_true, ite_false, ↓reduceIte, Nat.reduceAdd, Nat.reduceEqDiff, Nat.reduceLeDiff, Nat.reduceLT, Nat.reduceBEq, Nat.reduceBNe, Int.reduceAdd, Int.reduceNeg, Int.reduceSub, Int.reduceLE, Int.reduceLT, Int.reduceToNat, Int.reduceEq, Int.reduceMul, Int.cast_ofNat_Int, Nat.zero_add, Nat.add_zero, Nat.le_refl, eq_self, ne_eq, reduceCtorEq, or_true, true_or, or_false, false_or, Bool.or_true, Bool.or_false, Bool.true_or, Bool.false_or, Nat.zero_le, Int.le_refl, Int.ofNat_zero, Int.ofNat_one, Bool.false_eq_true]
    exact hb0
  · exact hT.elim
set_option maxRecDepth 100000 in
theorem con_X4_setDay (l : Launch) (D : va_G) (ty : Nat → ClassId) (base : Nat) : ab_Con l D vwCl ty lw_ts base lw_wd yX4_setDay cX4_setDay 8 (some .int) 1 60 1 4 Tr_X4_setDay :=
  ab_con_of (own := RX4) (rt := 1) (tb := tbX4) (ini := false) (ca := ca_X4_setDay) (by decide +kernel) rfl (fun h => by cases h) rfl lw_wd_ok wtbX4 lw_ar cm_X4_setDay
    (fun p e R s m args below meth c K hcx => by
      obtain ⟨hx, hb, hml, hown, hF, rfl⟩ := hcx
      exact ab_lk_all (ab_all_c (ab_tc_S hx hb hml hown lw_wd_ok hF ⟨rfl, rfl⟩ (con_X4_isIn l D ty base) (lw_wi (by decide +kernel) (by decide +kernel)) (lw_wi (by decide +kernel) (by decide +kernel)) (lw_wi (by decide +kernel) (by decide +kernel)) (lw_wi (by decide +kernel) (by decide +kernel)) (by decide +kernel) ⟨by decide, by decide⟩) (ab_all_c (ab_tc_V hx hb hml hown lw_wd_ok hF ⟨rfl, rfl⟩ (con_X4_fail l D ty base) rfl (lw_wi (by decide +kernel) (by decide +kernel)) (lw_wi (by decide +kernel) (by decide +kernel)) (lw_wi (by decide +kernel) (by decide +kernel)) (lw_wi (by decide +kernel) (by decide +kernel)) (lw_wi (by decide +kernel) (by decide +kernel)) (by decide +kernel) ⟨by decide, by decide⟩) (ab_all_c (ab_tc_V hx hb hml hown lw_wd_ok hF ⟨rfl, rfl⟩ (con_X4_dayTold l D ty base) rfl (lw_wi (by decide +kernel) (by decide +kernel)) (lw_wi (by decide +kernel) (by decide +kernel)) (lw_wi (by decide +kernel) (by decide +kernel)) (lw_wi (by decide +kernel) (by decide +kernel)) (lw_wi (by decide +kernel) (by decide +kernel)) (by decide +kernel) ⟨by decide, by decide⟩) (ab_all_c (ab_tc_copy hx hb hml hown lw_wd_ok hF ⟨rfl, rfl⟩ (lw_wi (by decide +kernel) (by decide +kernel)) (lw_wi (by decide +kernel) (by decide +kernel)) (lw_wi (by decide +kernel) (by decide +kernel)) (lw_wi (by decide +kernel) (by decide +kernel)) (by decide) (by decide +kernel)) (ab_all_n))))))
    (by intro as h K ht; unfold Tr_X4_setDay at ht; split at ht <;> first | exact ht.elim | exact Nat.le_of_ble_eq_true rfl) (sem_X4_setDay base)
noncomputable def Tr_X4_st : ATr := fun as h K => match as with
  | [.inr (.inl (some a)), .inl s, .inl what] => ab_so (ab_md h a) fun P => (0 ≤ 6 * s + what ∧ 6 * s + what < 1200) ∧ K (some (.inl (P.2.fst9 (6 * s + what)))) h
  | _ => False
theorem mo_X4_st : ab_mo Tr_X4_st := by
  intro as h K K' hk ht
  unfold Tr_X4_st at ht ⊢
  split at ht
  · exact ab_so_mo (fun P q => ⟨q.1, hk _ _ q.2⟩) ht
  · exact ht.elim
def ca_X4_st : Nat → Option ACS := ab_lk []
theorem cm_X4_st : ∀ i q, ca_X4_st i = some q → ab_moq i q := ab_lk_all (ab_all_n)
set_option maxRecDepth 100000 in
set_option maxHeartbeats 4000000 in
theorem sem_X4_st (base : Nat) : ab_Sem tbX4 lw_ts base cX4_st ca_X4_st 1 3 0 0 (fun as => ab_en as 3) Tr_X4_st := by
  intro as h K hT V hV
  unfold Tr_X4_st at hT
  split at hT
  · rename_i a s what
    obtain ⟨⟨⟨b0, b1, b2, b3, b4, b5⟩, th, sl, f0, f1, f2, f3, f4, f5⟩, hP, hs, hK⟩ := ab_so_el hT
    obtain ⟨c, c0, -⟩ := md_el hP
    dsimp only [mdC, MV.thr, MV.sl, MV.fst9, MV.fat, MV.frt, MV.ftb, MV.fnm, MV.fmk] at c c0 hK
    show V 0 [some (.inr (.inl (some a))), some (.inl s), some (.inl what)] [] h 0 0
    refine hV (fun _ => false) 80 _ _ _ _ _ _ ?_
    simp only [c, c0, ae_aload_n, ae_bipush, ae_getfield, ae_iadd, ae_iaload, ae_iload_n, ae_imul, ae_ireturn, dX4_st_0, dX4_st_1, dX4_st_4, dX4_st_6, dX4_st_7, dX4_st_8, dX4_st_9, dX4_st_10, dX4_st_11, tbX4_g9, ab_wp0, ab_wps, ab_stp, ab_g, ab_st, ab_k2, ab_cl, ab_pop, ab_sz, ab_2, ab_ret, ab_f4, ab_tg, ab_I, ab_II, ab_A, ab_Rf, ab_VR, ab_IR, ab_VIR, ab_1, ab_LL, ab_DD, ab_ob, ab_pr, ab_qr, ab_ln, ab_so, ab_vI, ab_vA, ab_vD, ab_vL, ab_v2, ab_c, ab_fit, ab_rv, ab_tsw, ab_lsw, ab_up_eq, Fin.isValue, ab_f0, ab_f1, ab_f2, ab_f3, List.getElem?_cons_zero, List.getElem?_cons_succ, List.set_cons_zero, List.set_cons_succ, List.length_cons, List.length_nil, List.size_toArray, List.head?_cons, List.tail_cons, Option.map_some, cond_true, cond_false, true_and, and_true, false_and, and_false, not_true_eq_false, not_false_eq_true, true_imp_iff, false_imp_iff, if_true, if_false, ite_true, ite_false, ↓reduceIte, Nat.reduceAdd, Nat.reduceEqDiff, Nat.reduceLeDiff, Nat.reduceLT, Nat.reduceBEq, Nat.reduceBNe, Int.reduceAdd, Int.reduceNeg, Int.reduceSub, Int.reduceLE, Int.reduceLT, Int.reduceToNat, Int.reduceEq, Int.reduceMul, Int.cast_ofNat_Int, Nat.zero_add, Nat.add_zero, Nat.le_refl, eq_self, ne_eq, reduceCtorEq, or_true, true_or, or_false, false_or, Bool.or_true, Bool.or_false, Bool.true_or, Bool.false_or, Nat.zero_le, Int.le_refl, Int.ofNat_zero, Int.ofNat_one, Bool.false_eq_true]
    (repeat' (first | intro _ | refine And.intro ?_ ?_)) <;> (first | exact hK | contradiction | omega | (exfalso; omega))
  · exact hT.elim
set_option maxRecDepth 100000 in
theorem con_X4_st (l : Launch) (D : va_G) (ty : Nat → ClassId) (base : Nat) : ab_Con l D vwCl ty lw_ts base lw_wd yX4_st cX4_st 3 (some .int) 0 0 0 0 Tr_X4_st :=
  ab_con_of (own := RX4) (rt := 1) (tb := tbX4) (ini := false) (ca := ca_X4_st) (by decide +kernel) rfl (fun h => by cases h) rfl lw_wd_ok wtbX4 lw_ar cm_X4_st
    (fun p e R s m args below meth c K hcx => by
      obtain ⟨hx, hb, hml, hown, hF, rfl⟩ := hcx
      exact ab_lk_all (ab_all_n))
    (by intro as h K ht; unfold Tr_X4_st at ht; split at ht <;> first | exact ht.elim | exact Nat.le_of_ble_eq_true rfl) (sem_X4_st base)
noncomputable def Tr_X4_mark : ATr := fun as h K => match as with
  | [.inr (.inl (some a)), .inl s, .inl val] => ab_so (ab_md h a) fun P => (s = 0 ∧ (0 ≤ P.2.fst9 0 ∧ P.2.fst9 0 ≤ 7) ∧ (0 ≤ P.2.fst9 1 ∧ P.2.fst9 1 + P.2.fst9 2 ≤ 12) ∧ (0 ≤ P.2.fst9 2 ∧ P.2.fst9 2 ≤ 4)) ∧ ∀ h' f', ab_md h' a = some (P.1, (P.2.thr, P.2.sl, P.2.fst9, f', P.2.frt, P.2.ftb, P.2.fnm, P.2.fmk)) → ab_fr h h' [P.1.2.1] → K none h'
  | _ => False
theorem mo_X4_mark : ab_mo Tr_X4_mark := by
  intro as h K K' hk ht
  unfold Tr_X4_mark at ht ⊢
  split at ht
  · exact ab_so_mo (fun P q => ⟨q.1, fun h' f' e1 e2 => hk _ _ (q.2 h' f' e1 e2)⟩) ht
  · exact ht.elim
def ca_X4_mark : Nat → Option ACS := ab_lk [(40, (0, 4, 3, 0, 0, Tr_X4_st))]
theorem ca_X4_mark_40 : ca_X4_mark 40 = some (0, 4, 3, 0, 0, Tr_X4_st) := rfl
theorem cm_X4_mark : ∀ i q, ca_X4_mark i = some q → ab_moq i q := ab_lk_all (ab_all_c mo_X4_st (ab_all_n))
set_option maxRecDepth 100000 in
set_option maxHeartbeats 4000000 in
theorem sem_X4_mark (base : Nat) : ab_Sem tbX4 lw_ts base cX4_mark ca_X4_mark 0 4 0 0 (fun as => ab_en as 4) Tr_X4_mark := by
  intro as h K hT V hV
  unfold Tr_X4_mark at hT
  split at hT
  · rename_i a s val
    obtain ⟨⟨⟨b0, b1, b2, b3, b4, b5⟩, th, sl, f0, f1, f2, f3, f4, f5⟩, hP, ⟨rfl, hs⟩, hK⟩ := ab_so_el hT
    dsimp only [MV.thr, MV.sl, MV.fst9, MV.fat, MV.frt, MV.ftb, MV.fnm, MV.fmk] at hs hK
    show V 0 [some (.inr (.inl (some a))), some (.inl 0), some (.inl val), none] [] h 0 0
    have loop : ∀ (n : Nat) (x : Int) (h1 : AH) (f : Int → Int), x + n = f0 1 + f0 2 → f0 1 ≤ x → ab_md h1 a = some ((b0, b1, b2, b3, b4, b5), (th, sl, f0, f, f2, f3, f4, f5)) → ab_fr h h1 [b1] → V 7 [some (.inr (.inl (some a))), some (.inl 0), some (.inl val), some (.inl x)] [] h1 0 0 := by
      intro n
      induction n with
      | zero =>
        intro x h1 f e1 e2 q1 q2
        obtain ⟨d, d0, d1, -⟩ := md_el q1
        dsimp only [mdC, MV.thr, MV.sl, MV.fst9, MV.fat, MV.frt, MV.ftb, MV.fnm, MV.fmk] at d d0 d1
        have hk := hK h1 f q1 q2
        refine hV (fun p => p == 24) 80 _ _ _ _ _ _ ?_
        simp only [d, q1, MV.thr, MV.sl, MV.fst9, MV.fat, MV.frt, MV.ftb, MV.fnm, MV.fmk, Tr_X4_st, ae_aload_n, ae_bipush, ae_getfield, ae_goto, ae_iadd, ae_iastore, ae_iconst, ae_if_icmp, ae_iinc, ae_iload_n, ae_imul, ae_invokevirtual, ae_istore_n, ae_return_, dX4_mark_0, dX4_mark_1, dX4_mark_2, dX4_mark_3, dX4_mark_6, dX4_mark_7, dX4_mark_8, dX4_mark_9, dX4_mark_10, dX4_mark_11, dX4_mark_14, dX4_mark_15, dX4_mark_16, dX4_mark_17, dX4_mark_20, dX4_mark_21, dX4_mark_24, dX4_mark_25, dX4_mark_28, dX4_mark_30, dX4_mark_31, dX4_mark_32, dX4_mark_33, dX4_mark_36, dX4_mark_37, dX4_mark_38, dX4_mark_39, dX4_mark_40, dX4_mark_41, dX4_mark_44, dX4_mark_47, tbX4_g13, ca_X4_mark_40, ab_wp0, ab_wps, ab_stp, ab_g, ab_st, ab_k2, ab_cl, ab_pop, ab_sz, ab_2, ab_ret, ab_f4, ab_tg, ab_I, ab_II, ab_A, ab_Rf, ab_VR, ab_IR, ab_VIR, ab_1, ab_LL, ab_DD, ab_ob, ab_pr, ab_qr, ab_ln, ab_so, ab_vI, ab_vA, ab_vD, ab_vL, ab_v2, ab_c, ab_fit, ab_rv, ab_tsw, ab_lsw, ab_up_eq, Fin.isValue, ab_f0, ab_f1, ab_f2, ab_f3, List.getElem?_cons_zero, List.getElem?_cons_succ, List.set_cons_zero, List.set_cons_succ, List.length_cons, List.length_nil, List.size_toArray, List.head?_cons, List.tail_cons, Option.map_some, cond_true, cond_false, true_and, and_true, false_and, and_false, not_true_eq_false, not_false_eq_true, true_imp_iff, false_imp_iff, if_true, if_false, ite_true, ite_false, ↓reduceIte, Nat.reduceAdd, Nat.reduceEqDiff, Nat.reduceLeDiff, Nat.reduceLT, Nat.reduceBEq, Nat.reduceBNe, Int.reduceAdd, Int.reduceNeg, Int.reduceSub, Int.reduceLE, Int.reduceLT, Int.reduceToNat, Int.reduceEq, Int.reduceMul, Int.cast_ofNat_Int, Nat.zero_add, Nat.add_zero, Nat.le_refl, eq_self, ne_eq, reduceCtorEq, or_true, true_or, or_false, false_or, Bool.or_true, Bool.or_false, Bool.true_or, Bool.false_or, Nat.zero_le, Int.le_refl, Int.ofNat_zero, Int.ofNat_one, Bool.false_eq_true]
        simp only [ab_in]
        (repeat' (first | intro _ | refine And.intro ?_ ?_)) <;> (first | exact hk | contradiction | omega | (exfalso; omega))
      | succ n ih =>
        intro x h1 f e1 e2 q1 q2
        have hm1 := md_el q1
        obtain ⟨d, d0, d1, -⟩ := id hm1
        dsimp only [mdC, MV.thr, MV.sl, MV.fst9, MV.fat, MV.frt, MV.ftb, MV.fnm, MV.fmk] at d d0 d1
        have ih' := ih (x + 1) (ab_up h1 b1 (.inr (.inl (0, 96, ab_uf f (12 * f0 0 + x) val)))) _ (by omega) (by omega) (md_of (md_s1 hm1 (ab_uf f (12 * f0 0 + x) val))) (q2.up (by simp))
        have l24 : V 24 [some (.inr (.inl (some a))), some (.inl 0), some (.inl val), some (.inl x)] [] h1 0 0 := by
          refine hV (fun p => p == 7) 80 _ _ _ _ _ _ ?_
          simp only [d, d1, q1, MV.thr, MV.sl, MV.fst9, MV.fat, MV.frt, MV.ftb, MV.fnm, MV.fmk, Tr_X4_st, ae_aload_n, ae_bipush, ae_getfield, ae_goto, ae_iadd, ae_iastore, ae_iconst, ae_iinc, ae_iload_n, ae_imul, ae_invokevirtual, dX4_mark_24, dX4_mark_25, dX4_mark_28, dX4_mark_30, dX4_mark_31, dX4_mark_32, dX4_mark_33, dX4_mark_36, dX4_mark_37, dX4_mark_38, dX4_mark_39, dX4_mark_40, dX4_mark_41, dX4_mark_44, tbX4_g13, ca_X4_mark_40, ab_wp0, ab_wps, ab_stp, ab_g, ab_st, ab_k2, ab_cl, ab_pop, ab_sz, ab_2, ab_ret, ab_f4, ab_tg, ab_I, ab_II, ab_A, ab_Rf, ab_VR, ab_IR, ab_VIR, ab_1, ab_LL, ab_DD, ab_ob, ab_pr, ab_qr, ab_ln, ab_so, ab_vI, ab_vA, ab_vD, ab_vL, ab_v2, ab_c, ab_fit, ab_rv, ab_tsw, ab_lsw, ab_up_eq, Fin.isValue, ab_f0, ab_f1, ab_f2, ab_f3, List.getElem?_cons_zero, List.getElem?_cons_succ, List.set_cons_zero, List.set_cons_succ, List.length_cons, List.length_nil, List.size_toArray, List.head?_cons, List.tail_cons, Option.map_some, cond_true, cond_false, true_and, and_true, false_and, and_false, not_true_eq_false, not_false_eq_true, true_imp_iff, false_imp_iff, if_true, if_false, ite_true, ite_false, ↓reduceIte, Nat.reduceAdd, Nat.reduceEqDiff, Nat.reduceLeDiff, Nat.reduceLT, Nat.reduceBEq, Nat.reduceBNe, Int.reduceAdd, Int.reduceNeg, Int.reduceSub, Int.reduceLE, Int.reduceLT, Int.reduceToNat, Int.reduceEq, Int.reduceMul, Int.cast_ofNat_Int, Nat.zero_add, Nat.add_zero, Nat.le_refl, eq_self, ne_eq, reduceCtorEq, or_true, true_or, or_false, false_or, Bool.or_true, Bool.or_false, Bool.true_or, Bool.false_or, Nat.zero_le, Int.le_refl, Int.ofNat_zero, Int.ofNat_one, Bool.false_eq_true]
          (repeat' (first | intro _ | refine And.intro ?_ ?_)) <;> (first | exact ih' | contradiction | omega | (exfalso; omega))
        refine hV (fun p => bif p == 24 then true else p == 47) 80 _ _ _ _ _ _ ?_
        simp only [d, q1, MV.thr, MV.sl, MV.fst9, MV.fat, MV.frt, MV.ftb, MV.fnm, MV.fmk, Tr_X4_st, ae_aload_n, ae_iadd, ae_iconst, ae_if_icmp, ae_iload_n, ae_invokevirtual, dX4_mark_7, dX4_mark_8, dX4_mark_9, dX4_mark_10, dX4_mark_11, dX4_mark_14, dX4_mark_15, dX4_mark_16, dX4_mark_17, dX4_mark_20, dX4_mark_21, ca_X4_mark_40, ab_wp0, ab_wps, ab_stp, ab_g, ab_st, ab_k2, ab_cl, ab_pop, ab_sz, ab_2, ab_ret, ab_f4, ab_tg, ab_I, ab_II, ab_A, ab_Rf, ab_VR, ab_IR, ab_VIR, ab_1, ab_LL, ab_DD, ab_ob, ab_pr, ab_qr, ab_ln, ab_so, ab_vI, ab_vA, ab_vD, ab_vL, ab_v2, ab_c, ab_fit, ab_rv, ab_tsw, ab_lsw, ab_up_eq, Fin.isValue, ab_f0, ab_f1, ab_f2, ab_f3, List.getElem?_cons_zero, List.getElem?_cons_succ, List.set_cons_zero, List.set_cons_succ, List.length_cons, List.length_nil, List.size_toArray, List.head?_cons, List.tail_cons, Option.map_some, cond_true, cond_false, true_and, and_true, false_and, and_false, not_true_eq_false, not_false_eq_true, true_imp_iff, false_imp_iff, if_true, if_false, ite_true, ite_false, ↓reduceIte, Nat.reduceAdd, Nat.reduceEqDiff, Nat.reduceLeDiff, Nat.reduceLT, Nat.reduceBEq, Nat.reduceBNe, Int.reduceAdd, Int.reduceNeg, Int.reduceSub, Int.reduceLE, Int.reduceLT, Int.reduceToNat, Int.reduceEq, Int.reduceMul, Int.cast_ofNat_Int, Nat.zero_add, Nat.add_zero, Nat.le_refl, eq_self, ne_eq, reduceCtorEq, or_true, true_or, or_false, false_or, Bool.or_true, Bool.or_false, Bool.true_or, Bool.false_or, Nat.zero_le, Int.le_refl, Int.ofNat_zero, Int.ofNat_one, Bool.false_eq_true]
        simp only [ab_in]
        (repeat' (first | intro _ | refine And.intro ?_ ?_)) <;> (first | exact l24 | contradiction | omega | (exfalso; omega))
    obtain ⟨d, -⟩ := md_el hP
    dsimp only [mdC, MV.thr, MV.sl, MV.fst9, MV.fat, MV.frt, MV.ftb, MV.fnm, MV.fmk] at d
    have l0 := loop (f0 2).toNat (f0 1) h f1 (by omega) (by omega) hP ab_fr.rf
    refine hV (fun p => p == 7) 80 _ _ _ _ _ _ ?_
    simp only [d, hP, MV.thr, MV.sl, MV.fst9, MV.fat, MV.frt, MV.ftb, MV.fnm, MV.fmk, Tr_X4_st, ae_aload_n, ae_iconst, ae_iload_n, ae_invokevirtual, ae_istore_n, dX4_mark_0, dX4_mark_1, dX4_mark_2, dX4_mark_3, dX4_mark_6, ca_X4_mark_40, ab_wp0, ab_wps, ab_stp, ab_g, ab_st, ab_k2, ab_cl, ab_pop, ab_sz, ab_2, ab_ret, ab_f4, ab_tg, ab_I, ab_II, ab_A, ab_Rf, ab_VR, ab_IR, ab_VIR, ab_1, ab_LL, ab_DD, ab_ob, ab_pr, ab_qr, ab_ln, ab_so, ab_vI, ab_vA, ab_vD, ab_vL, ab_v2, ab_c, ab_fit, ab_rv, ab_tsw, ab_lsw, ab_up_eq, Fin.isValue, ab_f0, ab_f1, ab_f2, ab_f3, List.getElem?_cons_zero, List.getElem?_cons_succ, List.set_cons_zero, List.set_cons_succ, List.length_cons, List.length_nil, List.size_toArray, List.head?_cons, List.tail_cons, Option.map_some, cond_true, cond_false, true_and, and_true, false_and, and_false, not_true_eq_false, not_false_eq_true, true_imp_iff, false_imp_iff, if_true, if_false, ite_true, ite_false, ↓reduceIte, Nat.reduceAdd, Nat.reduceEqDiff, Nat.reduceLeDiff, Nat.reduceLT, Nat.reduceBEq, Nat.reduceBNe, Int.reduceAdd, Int.reduceNeg, Int.reduceSub, Int.reduceLE, Int.reduceLT, Int.reduceToNat, Int.reduceEq, Int.reduceMul, Int.cast_ofNat_Int, Nat.zero_add, Nat.add_zero, Nat.le_refl, eq_self, ne_eq, reduceCtorEq, or_true, true_or, or_false, false_or, Bool.or_true, Bool.or_false, Bool.true_or, Bool.false_or, Nat.zero_le, Int.le_refl, Int.ofNat_zero, Int.ofNat_one, Bool.false_eq_true]
    (repeat' (first | intro _ | refine And.intro ?_ ?_)) <;> (first | exact l0 | contradiction | omega | (exfalso; omega))
  · exact hT.elim
set_option maxRecDepth 100000 in
theorem con_X4_mark (l : Launch) (D : va_G) (ty : Nat → ClassId) (base : Nat) : ab_Con l D vwCl ty lw_ts base lw_wd yX4_mark cX4_mark 4 none 1 22 0 0 Tr_X4_mark :=
  ab_con_of (own := RX4) (rt := 0) (tb := tbX4) (ini := false) (ca := ca_X4_mark) (by decide +kernel) rfl (fun h => by cases h) rfl lw_wd_ok wtbX4 lw_ar cm_X4_mark
    (fun p e R s m args below meth c K hcx => by
      obtain ⟨hx, hb, hml, hown, hF, rfl⟩ := hcx
      exact ab_lk_all (ab_all_c (ab_tc_V hx hb hml hown lw_wd_ok hF ⟨rfl, rfl⟩ (con_X4_st l D ty base) rfl (lw_wi (by decide +kernel) (by decide +kernel)) (lw_wi (by decide +kernel) (by decide +kernel)) (lw_wi (by decide +kernel) (by decide +kernel)) (lw_wi (by decide +kernel) (by decide +kernel)) (lw_wi (by decide +kernel) (by decide +kernel)) (by decide +kernel) ⟨by decide, by decide⟩) (ab_all_n)))
    (by intro as h K ht; unfold Tr_X4_mark at ht; split at ht <;> first | exact ht.elim | exact Nat.le_of_ble_eq_true rfl) (sem_X4_mark base)
noncomputable def Tr_X4_lay : ATr := fun as h K => match as with
  | [.inr (.inl (some a)), .inl row, .inl from9, .inl wide, .inl nails] => ab_so (ab_md h a) fun P => (bareV P.2 ∧ P.2.fnm 0 = 0 ∧ (ab_in row ∧ ab_in from9 ∧ ab_in wide ∧ ab_in nails)) ∧ (fitsF row from9 wide = true ∧ decide (1 ≤ nails ∧ nails ≤ 3) = true → ∀ h' v', ab_md h' a = some (P.1, v') → v'.thr = 0 → ab_kp h h' (mdL a P.1) → K (some (.inl (0))) h') ∧ (fitsF row from9 wide = false ∨ decide (1 ≤ nails ∧ nails ≤ 3) = false → ∀ h' v', ab_md h' a = some (P.1, v') → v'.thr = 1 → ab_kp h h' (mdL a P.1) → K (some (.inl (0))) h')
  | _ => False
theorem mo_X4_lay : ab_mo Tr_X4_lay := by
  intro as h K K' hk ht
  unfold Tr_X4_lay at ht ⊢
  split at ht
  · exact ab_so_mo (fun P q => ⟨q.1, fun e h' v' e1 e2 e3 => hk _ _ (q.2.1 e h' v' e1 e2 e3), fun e h' v' e1 e2 e3 => hk _ _ (q.2.2 e h' v' e1 e2 e3)⟩) ht
  · exact ht.elim
def ca_X4_lay : Nat → Option ACS := ab_lk [(55, (2, 0, 3, 0, 0, Tr_X4_isSpan)), (36, (2, 0, 3, 0, 0, Tr_X4_isIn)), (58, (0, 4, 2, 0, 0, Tr_X4_fail)), (62, (0, 4, 1, 0, 0, Tr_X4_onRoof)), (66, (0, 4, 4, 0, 0, Tr_X4_isFree)), (69, (2, 0, 5, 0, 0, Tr_copy)), (75, (0, 4, 3, 0, 0, Tr_X4_mark))]
theorem ca_X4_lay_55 : ca_X4_lay 55 = some (2, 0, 3, 0, 0, Tr_X4_isSpan) := rfl
theorem ca_X4_lay_36 : ca_X4_lay 36 = some (2, 0, 3, 0, 0, Tr_X4_isIn) := rfl
theorem ca_X4_lay_58 : ca_X4_lay 58 = some (0, 4, 2, 0, 0, Tr_X4_fail) := rfl
theorem ca_X4_lay_62 : ca_X4_lay 62 = some (0, 4, 1, 0, 0, Tr_X4_onRoof) := rfl
theorem ca_X4_lay_66 : ca_X4_lay 66 = some (0, 4, 4, 0, 0, Tr_X4_isFree) := rfl
theorem ca_X4_lay_69 : ca_X4_lay 69 = some (2, 0, 5, 0, 0, Tr_copy) := rfl
theorem ca_X4_lay_75 : ca_X4_lay 75 = some (0, 4, 3, 0, 0, Tr_X4_mark) := rfl
theorem cm_X4_lay : ∀ i q, ca_X4_lay i = some q → ab_moq i q := ab_lk_all (ab_all_c mo_X4_isSpan (ab_all_c mo_X4_isIn (ab_all_c mo_X4_fail (ab_all_c mo_X4_onRoof (ab_all_c mo_X4_isFree (ab_all_c Tr_copy_mo (ab_all_c mo_X4_mark (ab_all_n))))))))
set_option maxRecDepth 100000 in
set_option maxHeartbeats 4000000 in
theorem sem_X4_lay (base : Nat) : ab_Sem tbX4 lw_ts base cX4_lay ca_X4_lay 1 6 1 6 (fun as => ab_en as 6) Tr_X4_lay := by
  intro as h K hT V hV
  unfold Tr_X4_lay at hT
  split at hT
  · rename_i a row from9 wide nails
    obtain ⟨⟨⟨b0, b1, b2, b3, b4, b5⟩, th, sl, f0, f1, f2, f3, f4, f5⟩, hP, ⟨hb, hs⟩, hK⟩ := ab_so_el hT
    obtain ⟨g0, g1, g2, g3, g4, g5⟩ := id hb
    dsimp only [MV.thr, MV.sl, MV.fst9, MV.fat, MV.frt, MV.ftb, MV.fnm, MV.fmk] at g0 g1 g2 g3 g4 g5 hK hs
    subst g0
    have hm := md_el hP
    obtain ⟨c, c0, c1, c2, c3, c4, c5, -⟩ := id hm
    dsimp only [mdC, MV.thr, MV.sl, MV.fst9, MV.fat, MV.frt, MV.ftb, MV.fnm, MV.fmk] at c c0 c1 c2 c3 c4 c5
    show V 0 [some (.inr (.inl (some a))), some (.inl row), some (.inl from9), some (.inl wide), some (.inl nails), none] [] h 0 0
    obtain ⟨g6, hs⟩ := hs
    obtain ⟨hK0, hK1⟩ := hK
    have body : ∀ h1, ab_md h1 a = some ((b0, b1, b2, b3, b4, b5), (0, 0, f0, f1, f2, f3, f4, f5)) → ab_fr h h1 (mdL a (b0, b1, b2, b3, b4, b5)) → V 5 [some (.inr (.inl (some a))), some (.inl row), some (.inl from9), some (.inl wide), some (.inl nails), none] [] h1 0 0 := by
      intro h1 hP1 fr1
      have hm1 := md_el hP1
      have hb1 : bareV (0, 0, f0, f1, f2, f3, f4, f5) := hb
      obtain ⟨c', c0', c1', c2', c3', c4', c5', -⟩ := id hm1
      dsimp only [mdC, MV.thr, MV.sl, MV.fst9, MV.fat, MV.frt, MV.ftb, MV.fnm, MV.fmk] at c' c0' c1' c2' c3' c4' c5'
      have y0 : fitsF row from9 wide = true ∧ decide (1 ≤ nails ∧ nails ≤ 3) = true → K (some (.inl (0))) h1 := fun e => hK0 e h1 _ hP1 rfl (ab_kp.of_fr fr1)
      have x1 : fitsF row from9 wide = false ∨ decide (1 ≤ nails ∧ nails ≤ 3) = false → ∀ h2, ab_md h2 a = some ((b0, b1, b2, b3, b4, b5), (1, 0, f0, f1, f2, f3, f4, f5)) → ab_fr h1 h2 [a] → K (some (.inl 0)) h2 := fun e h2 w1 w2 => hK1 e h2 _ w1 rfl ((ab_kp.of_fr fr1).tr (ab_kp.of_fr (w2.sub (fun b hb => by rw [List.mem_singleton.mp hb]; exact md_inL.1))))
      cases hf : fitsF row from9 wide
      · refine hV (fun p => p == 30 || p == 14) 80 _ _ _ _ _ _ ?_
        simp only [c', hP1, hb1, hf, bI_in, bI_0, bI_1, bI_t, bI_f, bI_01, Tr_X4_isSpan, Tr_X4_fail, ae_aload_n, ae_iconst, ae_ifCond, ae_iload, ae_iload_n, ae_invokestatic, ae_invokevirtual, ae_ireturn, dX4_lay_5, dX4_lay_6, dX4_lay_7, dX4_lay_8, dX4_lay_11, dX4_lay_14, dX4_lay_16, dX4_lay_17, dX4_lay_18, dX4_lay_21, dX4_lay_24, dX4_lay_25, dX4_lay_26, dX4_lay_29, ca_X4_lay_55, ca_X4_lay_36, ca_X4_lay_58, ca_X4_lay_62, ca_X4_lay_66, ca_X4_lay_69, ca_X4_lay_75, ab_wp0, ab_wps, ab_stp, ab_g, ab_st, ab_k2, ab_cl, ab_pop, ab_sz, ab_2, ab_ret, ab_f4, ab_tg, ab_I, ab_II, ab_A, ab_Rf, ab_VR, ab_IR, ab_VIR, ab_1, ab_LL, ab_DD, ab_ob, ab_pr, ab_qr, ab_ln, ab_so, ab_vI, ab_vA, ab_vD, ab_vL, ab_v2, ab_c, ab_fit, ab_rv, ab_tsw, ab_lsw, ab_up_eq, Fin.isValue, ab_f0, ab_f1, ab_f2, ab_f3, List.getElem?_cons_zero, List.getElem?_cons_succ, List.set_cons_zero, List.set_cons_succ, List.length_cons, List.length_nil, List.size_toArray, List.head?_cons, List.tail_cons, Option.map_some, cond_true, cond_false, true_and, and_true, false_and, and_false, not_true_eq_false, not_false_eq_true, true_imp_iff, false_imp_iff, if_true, if_false, ite_true, ite_false, ↓reduceIte, Nat.reduceAdd, Nat.reduceEqDiff, Nat.reduceLeDiff, Nat.reduceLT, Nat.reduceBEq, Nat.reduceBNe, Int.reduceAdd, Int.reduceNeg, Int.reduceSub, Int.reduceLE, Int.reduceLT, Int.reduceToNat, Int.reduceEq, Int.reduceMul, Int.cast_ofNat_Int, Nat.zero_add, Nat.add_zero, Nat.le_refl, eq_self, ne_eq, reduceCtorEq, or_true, true_or, or_false, false_or, Bool.or_true, Bool.or_false, Bool.true_or, Bool.false_or, Nat.zero_le, Int.le_refl, Int.ofNat_zero, Int.ofNat_one, Bool.false_eq_true]
        try simp only [ab_in] at hs ⊢
        (repeat' (first | intro _ | refine And.intro ?_ ?_)) <;> (first | exact x1 (Or.inl hf) _ (by assumption) (by assumption) | contradiction | omega | (exfalso; omega))
      · cases hn : decide (1 ≤ nails ∧ nails ≤ 3)
        · refine hV (fun p => p == 30) 80 _ _ _ _ _ _ ?_
          simp only [c', hP1, hb1, hf, hn, bI_in, bI_0, bI_1, bI_t, bI_f, bI_01, Tr_X4_isSpan, Tr_X4_isIn, Tr_X4_fail, ae_aload_n, ae_iconst, ae_ifCond, ae_iload, ae_iload_n, ae_invokestatic, ae_invokevirtual, ae_ireturn, dX4_lay_5, dX4_lay_6, dX4_lay_7, dX4_lay_8, dX4_lay_11, dX4_lay_14, dX4_lay_16, dX4_lay_17, dX4_lay_18, dX4_lay_21, dX4_lay_24, dX4_lay_25, dX4_lay_26, dX4_lay_29, ca_X4_lay_55, ca_X4_lay_36, ca_X4_lay_58, ca_X4_lay_62, ca_X4_lay_66, ca_X4_lay_69, ca_X4_lay_75, ab_wp0, ab_wps, ab_stp, ab_g, ab_st, ab_k2, ab_cl, ab_pop, ab_sz, ab_2, ab_ret, ab_f4, ab_tg, ab_I, ab_II, ab_A, ab_Rf, ab_VR, ab_IR, ab_VIR, ab_1, ab_LL, ab_DD, ab_ob, ab_pr, ab_qr, ab_ln, ab_so, ab_vI, ab_vA, ab_vD, ab_vL, ab_v2, ab_c, ab_fit, ab_rv, ab_tsw, ab_lsw, ab_up_eq, Fin.isValue, ab_f0, ab_f1, ab_f2, ab_f3, List.getElem?_cons_zero, List.getElem?_cons_succ, List.set_cons_zero, List.set_cons_succ, List.length_cons, List.length_nil, List.size_toArray, List.head?_cons, List.tail_cons, Option.map_some, cond_true, cond_false, true_and, and_true, false_and, and_false, not_true_eq_false, not_false_eq_true, true_imp_iff, false_imp_iff, if_true, if_false, ite_true, ite_false, ↓reduceIte, Nat.reduceAdd, Nat.reduceEqDiff, Nat.reduceLeDiff, Nat.reduceLT, Nat.reduceBEq, Nat.reduceBNe, Int.reduceAdd, Int.reduceNeg, Int.reduceSub, Int.reduceLE, Int.reduceLT, Int.reduceToNat, Int.reduceEq, Int.reduceMul, Int.cast_ofNat_Int, Nat.zero_add, Nat.add_zero, Nat.le_refl, eq_self, ne_eq, reduceCtorEq, or_true, true_or, or_false, false_or, Bool.or_true, Bool.or_false, Bool.true_or, Bool.false_or, Nat.zero_le, Int.le_refl, Int.ofNat_zero, Int.ofNat_one, Bool.false_eq_true]
          try simp only [ab_in] at hs ⊢
          (repeat' (first | intro _ | refine And.intro ?_ ?_)) <;> (first | exact x1 (Or.inr hn) _ (by assumption) (by assumption) | contradiction | omega | (exfalso; omega))
        · have hf2 : (0 ≤ from9 ∧ from9 < 12 ∧ 0 ≤ row ∧ row < 8) ∧ 1 ≤ wide ∧ wide ≤ 4 ∧ wide ≤ 12 - from9 := of_decide_eq_true hf
          have l127 : ∀ (q : Nat) (h3 : AH) (F f' : Int → Int), ab_kp h1 h3 (mdL a (b0, b1, b2, b3, b4, b5)) → ab_md h3 a = some ((b0, b1, b2, b3, b4, b5), (0, 0, F, f', f2, f3, f4, f5)) → V 127 [some (.inr (.inl (some a))), some (.inl row), some (.inl from9), some (.inl wide), some (.inl nails), some (.inr (.inl (some q)))] [] h3 1 6 := by
            intro q h3 F f' hkp q1
            have hm3 := md_el q1
            obtain ⟨d', -⟩ := id hm3
            dsimp only [mdC, MV.thr, MV.sl, MV.fst9, MV.fat, MV.frt, MV.ftb, MV.fnm, MV.fmk] at d'
            have yy := hK0 ⟨hf, hn⟩ _ _ (md_of (md_sl hm3 (0 + 1))) rfl (((ab_kp.of_fr fr1).tr hkp).up md_inL.1)
            dsimp only [mdC] at yy
            refine hV (fun _ => false) 80 _ _ _ _ _ _ ?_
            simp only [d', ae_aload_n, ae_dup, ae_getfield, ae_iadd, ae_iconst, ae_ireturn, ae_isub, ae_putfield, dX4_lay_127, dX4_lay_128, dX4_lay_129, dX4_lay_132, dX4_lay_133, dX4_lay_134, dX4_lay_137, dX4_lay_138, dX4_lay_141, dX4_lay_142, dX4_lay_143, tbX4_g33, tbX4_p33, ca_X4_lay_55, ca_X4_lay_36, ca_X4_lay_58, ca_X4_lay_62, ca_X4_lay_66, ca_X4_lay_69, ca_X4_lay_75, ab_wp0, ab_wps, ab_stp, ab_g, ab_st, ab_k2, ab_cl, ab_pop, ab_sz, ab_2, ab_ret, ab_f4, ab_tg, ab_I, ab_II, ab_A, ab_Rf, ab_VR, ab_IR, ab_VIR, ab_1, ab_LL, ab_DD, ab_ob, ab_pr, ab_qr, ab_ln, ab_so, ab_vI, ab_vA, ab_vD, ab_vL, ab_v2, ab_c, ab_fit, ab_rv, ab_tsw, ab_lsw, ab_up_eq, Fin.isValue, ab_f0, ab_f1, ab_f2, ab_f3, List.getElem?_cons_zero, List.getElem?_cons_succ, List.set_cons_zero, List.set_cons_succ, List.length_cons, List.length_nil, List.size_toArray, List.head?_cons, List.tail_cons, Option.map_some, cond_true, cond_false, true_and, and_true, false_and, and_false, not_true_eq_false, not_false_eq_true, true_imp_iff, false_imp_iff, if_true, if_false, ite_true, ite_false, ↓reduceIte, Nat.reduceAdd, Nat.reduceEqDiff, Nat.reduceLeDiff, Nat.reduceLT, Nat.reduceBEq, Nat.reduceBNe, Int.reduceAdd, Int.reduceNeg, Int.reduceSub, Int.reduceLE, Int.reduceLT, Int.reduceToNat, Int.reduceEq, Int.reduceMul, Int.cast_ofNat_Int, Nat.zero_add, Nat.add_zero, Nat.le_refl, eq_self, ne_eq, reduceCtorEq, or_true, true_or, or_false, false_or, Bool.or_true, Bool.or_false, Bool.true_or, Bool.false_or, Nat.zero_le, Int.le_refl, Int.ofNat_zero, Int.ofNat_one, Bool.false_eq_true]
            (repeat' (first | intro _ | refine And.intro ?_ ?_)) <;> (first | exact yy | contradiction | omega | (exfalso; omega))
          have l115 : ∀ (q : Nat) (h2 : AH) (F : Int → Int), ab_kp h1 h2 (mdL a (b0, b1, b2, b3, b4, b5)) → mdAt h2 a ((b0, b1, b2, b3, b4, b5), (0, 0, F, f1, f2, f3, f4, f5)) → F 0 = row → F 1 = from9 → F 2 = wide → V 115 [some (.inr (.inl (some a))), some (.inl row), some (.inl from9), some (.inl wide), some (.inl nails), some (.inr (.inl (some q)))] [] h2 1 6 := by
            intro q h2 F hkp hm2 z0 z1 z2
            have q1 := md_of hm2
            obtain ⟨d', -⟩ := id hm2
            dsimp only [mdC, MV.thr, MV.sl, MV.fst9, MV.fat, MV.frt, MV.ftb, MV.fnm, MV.fmk] at d'
            have l127' : ∀ h3 f', ab_md h3 a = some ((b0, b1, b2, b3, b4, b5), (0, 0, F, f', f2, f3, f4, f5)) → ab_fr h2 h3 [b1] → V 127 [some (.inr (.inl (some a))), some (.inl row), some (.inl from9), some (.inl wide), some (.inl nails), some (.inr (.inl (some q)))] [] h3 1 6 := fun h3 f' w1 w2 => l127 q h3 F f' (hkp.tr (ab_kp.of_fr (w2.sub (fun b hb => by rw [List.mem_singleton.mp hb]; simp [mdL])))) w1
            refine hV (fun p => p == 127) 80 _ _ _ _ _ _ ?_
            simp only [d', q1, MV.thr, MV.sl, MV.fst9, MV.fat, MV.frt, MV.ftb, MV.fnm, MV.fmk, z0, z1, z2, bI_in, bI_0, bI_1, bI_t, bI_f, bI_01, Tr_X4_mark, ae_aload_n, ae_getfield, ae_invokevirtual, dX4_lay_115, dX4_lay_116, dX4_lay_117, dX4_lay_120, dX4_lay_121, dX4_lay_124, tbX4_g33, ca_X4_lay_55, ca_X4_lay_36, ca_X4_lay_58, ca_X4_lay_62, ca_X4_lay_66, ca_X4_lay_69, ca_X4_lay_75, ab_wp0, ab_wps, ab_stp, ab_g, ab_st, ab_k2, ab_cl, ab_pop, ab_sz, ab_2, ab_ret, ab_f4, ab_tg, ab_I, ab_II, ab_A, ab_Rf, ab_VR, ab_IR, ab_VIR, ab_1, ab_LL, ab_DD, ab_ob, ab_pr, ab_qr, ab_ln, ab_so, ab_vI, ab_vA, ab_vD, ab_vL, ab_v2, ab_c, ab_fit, ab_rv, ab_tsw, ab_lsw, ab_up_eq, Fin.isValue, ab_f0, ab_f1, ab_f2, ab_f3, List.getElem?_cons_zero, List.getElem?_cons_succ, List.set_cons_zero, List.set_cons_succ, List.length_cons, List.length_nil, List.size_toArray, List.head?_cons, List.tail_cons, Option.map_some, cond_true, cond_false, true_and, and_true, false_and, and_false, not_true_eq_false, not_false_eq_true, true_imp_iff, false_imp_iff, if_true, if_false, ite_true, ite_false, ↓reduceIte, Nat.reduceAdd, Nat.reduceEqDiff, Nat.reduceLeDiff, Nat.reduceLT, Nat.reduceBEq, Nat.reduceBNe, Int.reduceAdd, Int.reduceNeg, Int.reduceSub, Int.reduceLE, Int.reduceLT, Int.reduceToNat, Int.reduceEq, Int.reduceMul, Int.cast_ofNat_Int, Nat.zero_add, Nat.add_zero, Nat.le_refl, eq_self, ne_eq, reduceCtorEq, or_true, true_or, or_false, false_or, Bool.or_true, Bool.or_false, Bool.true_or, Bool.false_or, Nat.zero_le, Int.le_refl, Int.ofNat_zero, Int.ofNat_one, Bool.false_eq_true]
            (repeat' (first | intro _ | refine And.intro ?_ ?_)) <;> (first | exact l127' _ _ (by assumption) (by assumption) | contradiction | omega | (exfalso; omega))
          have l69 : ∀ q, h1 q = none → V 69 [some (.inr (.inl (some a))), some (.inl row), some (.inl from9), some (.inl wide), some (.inl nails), none] [.inr (.inl (some q))] (ab_up h1 q (.inr (.inl (0, 6, fun _ => 0)))) 1 6 := by
            intro q hq
            have ea := ab_none_ne c' hq
            have e0 := ab_none_ne c0' hq
            have nx : ∀ (h2 : AH) (F : Int → Int), (∀ b, h1 b ≠ none → h2 b = h1 b) → F 0 = row → F 1 = from9 → F 2 = wide → V 115 [some (.inr (.inl (some a))), some (.inl row), some (.inl from9), some (.inl wide), some (.inl nails), some (.inr (.inl (some q)))] [] (ab_up h2 b0 (.inr (.inl (0, 1200, F)))) 1 6 := fun h2 F hkp2 z0 z1 z2 =>
              l115 q _ F (ab_kp.up (fun b hb _ => hkp2 b hb) (by simp [mdL])) (md_s0 (md_kp0 hm1 hkp2) F) z0 z1 z2
            have kq : ∀ (X0 X1 X2 X3 X4 X5 X6 : AC) b, h1 b ≠ none → ab_up (ab_up (ab_up (ab_up (ab_up (ab_up (ab_up h1 q X0) q X1) q X2) q X3) q X4) q X5) q X6 b = h1 b := fun X0 X1 X2 X3 X4 X5 X6 b hb => by
              have : ¬ b = q := fun z => hb (by rw [z]; exact hq)
              simp only [ab_up_ap, this, if_false]
            refine hV (fun p => p == 115) 80 _ _ _ _ _ _ ?_
            simp only [ab_up_ap, ea, e0, c', c0', bI_in, bI_0, bI_1, bI_t, bI_f, bI_01, Tr_copy, ae_aload, ae_aload_n, ae_astore, ae_bipush, ae_dup, ae_getfield, ae_iastore, ae_iconst, ae_iload, ae_iload_n, ae_imul, ae_invokestatic, dX4_lay_69, dX4_lay_70, dX4_lay_71, dX4_lay_72, dX4_lay_73, dX4_lay_74, dX4_lay_75, dX4_lay_76, dX4_lay_77, dX4_lay_78, dX4_lay_79, dX4_lay_80, dX4_lay_81, dX4_lay_82, dX4_lay_83, dX4_lay_85, dX4_lay_86, dX4_lay_87, dX4_lay_88, dX4_lay_89, dX4_lay_90, dX4_lay_91, dX4_lay_92, dX4_lay_93, dX4_lay_94, dX4_lay_96, dX4_lay_98, dX4_lay_99, dX4_lay_100, dX4_lay_103, dX4_lay_105, dX4_lay_106, dX4_lay_109, dX4_lay_110, dX4_lay_112, tbX4_g33, tbX4_g9, ca_X4_lay_55, ca_X4_lay_36, ca_X4_lay_58, ca_X4_lay_62, ca_X4_lay_66, ca_X4_lay_69, ca_X4_lay_75, ab_wp0, ab_wps, ab_stp, ab_g, ab_st, ab_k2, ab_cl, ab_pop, ab_sz, ab_2, ab_ret, ab_f4, ab_tg, ab_I, ab_II, ab_A, ab_Rf, ab_VR, ab_IR, ab_VIR, ab_1, ab_LL, ab_DD, ab_ob, ab_pr, ab_qr, ab_ln, ab_so, ab_vI, ab_vA, ab_vD, ab_vL, ab_v2, ab_c, ab_fit, ab_rv, ab_tsw, ab_lsw, ab_up_eq, Fin.isValue, ab_f0, ab_f1, ab_f2, ab_f3, List.getElem?_cons_zero, List.getElem?_cons_succ, List.set_cons_zero, List.set_cons_succ, List.length_cons, List.length_nil, List.size_toArray, List.head?_cons, List.tail_cons, Option.map_some, cond_true, cond_false, true_and, and_true, false_and, and_false, not_true_eq_false, not_false_eq_true, true_imp_iff, false_imp_iff, if_true, if_false, ite_true, ite_false, ↓reduceIte, Nat.reduceAdd, Nat.reduceEqDiff, Nat.reduceLeDiff, Nat.reduceLT, Nat.reduceBEq, Nat.reduceBNe, Int.reduceAdd, Int.reduceNeg, Int.reduceSub, Int.reduceLE, Int.reduceLT, Int.reduceToNat, Int.reduceEq, Int.reduceMul, Int.cast_ofNat_Int, Nat.zero_add, Nat.add_zero, Nat.le_refl, eq_self, ne_eq, reduceCtorEq, or_true, true_or, or_false, false_or, Bool.or_true, Bool.or_false, Bool.true_or, Bool.false_or, Nat.zero_le, Int.le_refl, Int.ofNat_zero, Int.ofNat_one, Bool.false_eq_true]
            (repeat' (first | intro _ | refine And.intro ?_ ?_)) <;> (first | exact nx _ _ (kq _ _ _ _ _ _ _) (by simp [ab_uf]) (by simp [ab_uf]) (by simp [ab_uf]) | contradiction | omega | exact e0.1 | exact e0.2 | (exfalso; omega))
          refine hV (fun p => p == 69 || p == 24 || p == 59) 80 _ _ _ _ _ _ ?_
          simp only [c', hP1, hb1, hf, hn, ab_at_i, bI_in, bI_0, bI_1, bI_t, bI_f, bI_01, Tr_X4_isSpan, Tr_X4_isIn, Tr_X4_onRoof, Tr_X4_isFree, ae_aload_n, ae_bipush, ae_getfield, ae_iconst, ae_ifCond, ae_if_icmp, ae_iload, ae_iload_n, ae_invokestatic, ae_invokevirtual, ae_ireturn, ae_newarray, ae_sipush, dX4_lay_5, dX4_lay_6, dX4_lay_7, dX4_lay_8, dX4_lay_11, dX4_lay_14, dX4_lay_16, dX4_lay_17, dX4_lay_18, dX4_lay_21, dX4_lay_24, dX4_lay_25, dX4_lay_26, dX4_lay_29, dX4_lay_30, dX4_lay_31, dX4_lay_34, dX4_lay_36, dX4_lay_39, dX4_lay_40, dX4_lay_43, dX4_lay_46, dX4_lay_49, dX4_lay_50, dX4_lay_51, dX4_lay_52, dX4_lay_53, dX4_lay_56, dX4_lay_59, dX4_lay_60, dX4_lay_61, dX4_lay_64, dX4_lay_65, dX4_lay_67, tbX4_g33, ca_X4_lay_55, ca_X4_lay_36, ca_X4_lay_58, ca_X4_lay_62, ca_X4_lay_66, ca_X4_lay_69, ca_X4_lay_75, ab_wp0, ab_wps, ab_stp, ab_g, ab_st, ab_k2, ab_cl, ab_pop, ab_sz, ab_2, ab_ret, ab_f4, ab_tg, ab_I, ab_II, ab_A, ab_Rf, ab_VR, ab_IR, ab_VIR, ab_1, ab_LL, ab_DD, ab_ob, ab_pr, ab_qr, ab_ln, ab_so, ab_vI, ab_vA, ab_vD, ab_vL, ab_v2, ab_c, ab_fit, ab_rv, ab_tsw, ab_lsw, ab_up_eq, Fin.isValue, ab_f0, ab_f1, ab_f2, ab_f3, List.getElem?_cons_zero, List.getElem?_cons_succ, List.set_cons_zero, List.set_cons_succ, List.length_cons, List.length_nil, List.size_toArray, List.head?_cons, List.tail_cons, Option.map_some, cond_true, cond_false, true_and, and_true, false_and, and_false, not_true_eq_false, not_false_eq_true, true_imp_iff, false_imp_iff, if_true, if_false, ite_true, ite_false, ↓reduceIte, Nat.reduceAdd, Nat.reduceEqDiff, Nat.reduceLeDiff, Nat.reduceLT, Nat.reduceBEq, Nat.reduceBNe, Int.reduceAdd, Int.reduceNeg, Int.reduceSub, Int.reduceLE, Int.reduceLT, Int.reduceToNat, Int.reduceEq, Int.reduceMul, Int.cast_ofNat_Int, Nat.zero_add, Nat.add_zero, Nat.le_refl, eq_self, ne_eq, reduceCtorEq, or_true, true_or, or_false, false_or, Bool.or_true, Bool.or_false, Bool.true_or, Bool.false_or, Nat.zero_le, Int.le_refl, Int.ofNat_zero, Int.ofNat_one, Bool.false_eq_true]
          try simp only [ab_in] at hs ⊢
          (repeat' (first | intro _ | refine And.intro ?_ ?_)) <;> (first | exact lw0 | exact l69 _ (by assumption) | contradiction | omega | (exfalso; omega))
    have hb0 := body _ (md_of (md_thr hm 0)) (ab_fr.rf.up md_inL.1)
    dsimp only [mdC] at hb0
    refine hV (fun p => p == 5) 80 _ _ _ _ _ _ ?_
    simp only [c, ae_aload_n, ae_iconst, ae_putfield, dX4_lay_0, dX4_lay_1, dX4_lay_2, tbX4_p29, ca_X4_lay_55, ca_X4_lay_36, ca_X4_lay_58, ca_X4_lay_62, ca_X4_lay_66, ca_X4_lay_69, ca_X4_lay_75, ab_wp0, ab_wps, ab_stp, ab_g, ab_st, ab_k2, ab_cl, ab_pop, ab_sz, ab_2, ab_ret, ab_f4, ab_tg, ab_I, ab_II, ab_A, ab_Rf, ab_VR, ab_IR, ab_VIR, ab_1, ab_LL, ab_DD, ab_ob, ab_pr, ab_qr, ab_ln, ab_so, ab_vI, ab_vA, ab_vD, ab_vL, ab_v2, ab_c, ab_fit, ab_rv, ab_tsw, ab_lsw, ab_up_eq, Fin.isValue, ab_f0, ab_f1, ab_f2, ab_f3, List.getElem?_cons_zero, List.getElem?_cons_succ, List.set_cons_zero, List.set_cons_succ, List.length_cons, List.length_nil, List.size_toArray, List.head?_cons, List.tail_cons, Option.map_some, cond_true, cond_false, true_and, and_true, false_and, and_false, not_true_eq_false, not_false_eq_true, true_imp_iff, false_imp_iff, if_true, if_false, ite_true, ite_false, ↓reduceIte, Nat.reduceAdd, Nat.reduceEqDiff, Nat.reduceLeDiff, Nat.reduceLT, Nat.reduceBEq, Nat.reduceBNe, Int.reduceAdd, Int.reduceNeg, Int.reduceSub, Int.reduceLE, Int.reduceLT, Int.reduceToNat, Int.reduceEq, Int.reduceMul, Int.cast_ofNat_Int, Nat.zero_add, Nat.add_zero, Nat.le_refl, eq_self, ne_eq, reduceCtorEq, or_true, true_or, or_false, false_or, Bool.or_true, Bool.or_false, Bool.true_or, Bool.false_or, Nat.zero_le, Int.le_refl, Int.ofNat_zero, Int.ofNat_one, Bool.false_eq_true]
    exact hb0
  · exact hT.elim
set_option maxRecDepth 100000 in
theorem con_X4_lay (l : Launch) (D : va_G) (ty : Nat → ClassId) (base : Nat) : ab_Con l D vwCl ty lw_ts base lw_wd yX4_lay cX4_lay 6 (some .int) 5 114 1 6 Tr_X4_lay :=
  ab_con_of (own := RX4) (rt := 1) (tb := tbX4) (ini := false) (ca := ca_X4_lay) (by decide +kernel) rfl (fun h => by cases h) rfl lw_wd_ok wtbX4 lw_ar cm_X4_lay
    (fun p e R s m args below meth c K hcx => by
      obtain ⟨hx, hb, hml, hown, hF, rfl⟩ := hcx
      exact ab_lk_all (ab_all_c (ab_tc_S hx hb hml hown lw_wd_ok hF ⟨rfl, rfl⟩ (con_X4_isSpan l D ty base) (lw_wi (by decide +kernel) (by decide +kernel)) (lw_wi (by decide +kernel) (by decide +kernel)) (lw_wi (by decide +kernel) (by decide +kernel)) (lw_wi (by decide +kernel) (by decide +kernel)) (by decide +kernel) ⟨by decide, by decide⟩) (ab_all_c (ab_tc_S hx hb hml hown lw_wd_ok hF ⟨rfl, rfl⟩ (con_X4_isIn l D ty base) (lw_wi (by decide +kernel) (by decide +kernel)) (lw_wi (by decide +kernel) (by decide +kernel)) (lw_wi (by decide +kernel) (by decide +kernel)) (lw_wi (by decide +kernel) (by decide +kernel)) (by decide +kernel) ⟨by decide, by decide⟩) (ab_all_c (ab_tc_V hx hb hml hown lw_wd_ok hF ⟨rfl, rfl⟩ (con_X4_fail l D ty base) rfl (lw_wi (by decide +kernel) (by decide +kernel)) (lw_wi (by decide +kernel) (by decide +kernel)) (lw_wi (by decide +kernel) (by decide +kernel)) (lw_wi (by decide +kernel) (by decide +kernel)) (lw_wi (by decide +kernel) (by decide +kernel)) (by decide +kernel) ⟨by decide, by decide⟩) (ab_all_c (ab_tc_V hx hb hml hown lw_wd_ok hF ⟨rfl, rfl⟩ (con_X4_onRoof l D ty base) rfl (lw_wi (by decide +kernel) (by decide +kernel)) (lw_wi (by decide +kernel) (by decide +kernel)) (lw_wi (by decide +kernel) (by decide +kernel)) (lw_wi (by decide +kernel) (by decide +kernel)) (lw_wi (by decide +kernel) (by decide +kernel)) (by decide +kernel) ⟨by decide, by decide⟩) (ab_all_c (ab_tc_V hx hb hml hown lw_wd_ok hF ⟨rfl, rfl⟩ (con_X4_isFree l D ty base) rfl (lw_wi (by decide +kernel) (by decide +kernel)) (lw_wi (by decide +kernel) (by decide +kernel)) (lw_wi (by decide +kernel) (by decide +kernel)) (lw_wi (by decide +kernel) (by decide +kernel)) (lw_wi (by decide +kernel) (by decide +kernel)) (by decide +kernel) ⟨by decide, by decide⟩) (ab_all_c (ab_tc_copy hx hb hml hown lw_wd_ok hF ⟨rfl, rfl⟩ (lw_wi (by decide +kernel) (by decide +kernel)) (lw_wi (by decide +kernel) (by decide +kernel)) (lw_wi (by decide +kernel) (by decide +kernel)) (lw_wi (by decide +kernel) (by decide +kernel)) (by decide) (by decide +kernel)) (ab_all_c (ab_tc_V hx hb hml hown lw_wd_ok hF ⟨rfl, rfl⟩ (con_X4_mark l D ty base) rfl (lw_wi (by decide +kernel) (by decide +kernel)) (lw_wi (by decide +kernel) (by decide +kernel)) (lw_wi (by decide +kernel) (by decide +kernel)) (lw_wi (by decide +kernel) (by decide +kernel)) (lw_wi (by decide +kernel) (by decide +kernel)) (by decide +kernel) ⟨by decide, by decide⟩) (ab_all_n)))))))))
    (by intro as h K ht; unfold Tr_X4_lay at ht; split at ht <;> first | exact ht.elim | exact Nat.le_of_ble_eq_true rfl) (sem_X4_lay base)
noncomputable def Tr_X4_share : ATr := fun as h K => match as with
  | [.inr (.inl (some a))] => ab_so (ab_md h a) fun P => (bareV P.2 ∧ P.2.fnm 0 = 0 ∧ (True)) ∧ (True → ∀ h' v', ab_md h' a = some (P.1, v') → v'.thr = 0 → ab_kp h h' (mdL a P.1) → K (some (.inr (.inr (.inr shD)))) h')
  | _ => False
theorem mo_X4_share : ab_mo Tr_X4_share := by
  intro as h K K' hk ht
  unfold Tr_X4_share at ht ⊢
  split at ht
  · exact ab_so_mo (fun P q => ⟨q.1, fun e h' v' e1 e2 e3 => hk _ _ (q.2 e h' v' e1 e2 e3)⟩) ht
  · exact ht.elim
def ca_X4_share : Nat → Option ACS := ab_lk [(118, (0, 4, 1, 0, 0, Tr_X4_covered))]
theorem ca_X4_share_118 : ca_X4_share 118 = some (0, 4, 1, 0, 0, Tr_X4_covered) := rfl
theorem cm_X4_share : ∀ i q, ca_X4_share i = some q → ab_moq i q := ab_lk_all (ab_all_c mo_X4_covered (ab_all_n))
set_option maxRecDepth 100000 in
set_option maxHeartbeats 4000000 in
theorem sem_X4_share (base : Nat) : ab_Sem tbX4 lw_ts base cX4_share ca_X4_share 4 1 0 0 (fun as => ab_en as 1) Tr_X4_share := by
  intro as h K hT V hV
  unfold Tr_X4_share at hT
  split at hT
  · rename_i a
    obtain ⟨⟨⟨b0, b1, b2, b3, b4, b5⟩, th, sl, f0, f1, f2, f3, f4, f5⟩, hP, ⟨hb, hs⟩, hK⟩ := ab_so_el hT
    obtain ⟨g0, g1, g2, g3, g4, g5⟩ := id hb
    dsimp only [MV.thr, MV.sl, MV.fst9, MV.fat, MV.frt, MV.ftb, MV.fnm, MV.fmk] at g0 g1 g2 g3 g4 g5 hK hs
    subst g0
    have hm := md_el hP
    obtain ⟨c, c0, c1, c2, c3, c4, c5, -⟩ := id hm
    dsimp only [mdC, MV.thr, MV.sl, MV.fst9, MV.fat, MV.frt, MV.ftb, MV.fnm, MV.fmk] at c c0 c1 c2 c3 c4 c5
    show V 0 [some (.inr (.inl (some a)))] [] h 0 0
    obtain ⟨g6, hs⟩ := hs
    have hK0 := hK
    have body : ∀ h1, ab_md h1 a = some ((b0, b1, b2, b3, b4, b5), (0, 0, f0, f1, f2, f3, f4, f5)) → ab_fr h h1 (mdL a (b0, b1, b2, b3, b4, b5)) → V 5 [some (.inr (.inl (some a)))] [] h1 0 0 := by
      intro h1 hP1 fr1
      have hm1 := md_el hP1
      have hb1 : bareV (0, 0, f0, f1, f2, f3, f4, f5) := hb
      obtain ⟨c', c0', c1', c2', c3', c4', c5', -⟩ := id hm1
      dsimp only [mdC, MV.thr, MV.sl, MV.fst9, MV.fat, MV.frt, MV.ftb, MV.fnm, MV.fmk] at c' c0' c1' c2' c3' c4' c5'
      have y0 : True → K (some (.inr (.inr (.inr shD)))) h1 := fun e => hK0 e h1 _ hP1 rfl (ab_kp.of_fr fr1)
      have hn := shD_n
      unfold shD at y0
      have yy := y0 trivial
      refine hV (fun _ => false) 80 _ _ _ _ _ _ ?_
      simp only [c', hP1, hb1, bI_in, bI_0, bI_1, bI_t, bI_f, bI_01, Tr_X4_covered, ae_aload_n, ae_ddiv, ae_dreturn, ae_i2d, ae_invokevirtual, ae_ldc2_w, dX4_share_5, dX4_share_6, dX4_share_9, dX4_share_10, dX4_share_13, dX4_share_14, tbX4_c181, ca_X4_share_118, ab_wp0, ab_wps, ab_stp, ab_g, ab_st, ab_k2, ab_cl, ab_pop, ab_sz, ab_2, ab_ret, ab_f4, ab_tg, ab_I, ab_II, ab_A, ab_Rf, ab_VR, ab_IR, ab_VIR, ab_1, ab_LL, ab_DD, ab_ob, ab_pr, ab_qr, ab_ln, ab_so, ab_vI, ab_vA, ab_vD, ab_vL, ab_v2, ab_c, ab_fit, ab_rv, ab_tsw, ab_lsw, ab_up_eq, Fin.isValue, ab_f0, ab_f1, ab_f2, ab_f3, List.getElem?_cons_zero, List.getElem?_cons_succ, List.set_cons_zero, List.set_cons_succ, List.length_cons, List.length_nil, List.size_toArray, List.head?_cons, List.tail_cons, Option.map_some, cond_true, cond_false, true_and, and_true, false_and, and_false, not_true_eq_false, not_false_eq_true, true_imp_iff, false_imp_iff, if_true, if_false, ite_true, ite_false, ↓reduceIte, Nat.reduceAdd, Nat.reduceEqDiff, Nat.reduceLeDiff, Nat.reduceLT, Nat.reduceBEq, Nat.reduceBNe, Int.reduceAdd, Int.reduceNeg, Int.reduceSub, Int.reduceLE, Int.reduceLT, Int.reduceToNat, Int.reduceEq, Int.reduceMul, Int.cast_ofNat_Int, Nat.zero_add, Nat.add_zero, Nat.le_refl, eq_self, ne_eq, reduceCtorEq, or_true, true_or, or_false, false_or, Bool.or_true, Bool.or_false, Bool.true_or, Bool.false_or, Nat.zero_le, Int.le_refl, Int.ofNat_zero, Int.ofNat_one, Bool.false_eq_true]
      try simp only [ab_in]
      (repeat' (first | intro _ | refine And.intro ?_ ?_)) <;> (first | exact hn | exact yy | contradiction | omega | (exfalso; omega))
    have hb0 := body _ (md_of (md_thr hm 0)) (ab_fr.rf.up md_inL.1)
    dsimp only [mdC] at hb0
    refine hV (fun p => p == 5) 80 _ _ _ _ _ _ ?_
    simp only [c, ae_aload_n, ae_iconst, ae_putfield, dX4_share_0, dX4_share_1, dX4_share_2, tbX4_p29, ca_X4_share_118, ab_wp0, ab_wps, ab_stp, ab_g, ab_st, ab_k2, ab_cl, ab_pop, ab_sz, ab_2, ab_ret, ab_f4, ab_tg, ab_I, ab_II, ab_A, ab_Rf, ab_VR, ab_IR, ab_VIR, ab_1, ab_LL, ab_DD, ab_ob, ab_pr, ab_qr, ab_ln, ab_so, ab_vI, ab_vA, ab_vD, ab_vL, ab_v2, ab_c, ab_fit, ab_rv, ab_tsw, ab_lsw, ab_up_eq, Fin.isValue, ab_f0, ab_f1, ab_f2, ab_f3, List.getElem?_cons_zero, List.getElem?_cons_succ, List.set_cons_zero, List.set_cons_succ, List.length_cons, List.length_nil, List.size_toArray, List.head?_cons, List.tail_cons, Option.map_some, cond_true, cond_false, true_and, and_true, false_and, and_false, not_true_eq_false, not_false_eq_true, true_imp_iff, false_imp_iff, if_true, if_false, ite_true, ite_false, ↓reduceIte, Nat.reduceAdd, Nat.reduceEqDiff, Nat.reduceLeDiff, Nat.reduceLT, Nat.reduceBEq, Nat.reduceBNe, Int.reduceAdd, Int.reduceNeg, Int.reduceSub, Int.reduceLE, Int.reduceLT, Int.reduceToNat, Int.reduceEq, Int.reduceMul, Int.cast_ofNat_Int, Nat.zero_add, Nat.add_zero, Nat.le_refl, eq_self, ne_eq, reduceCtorEq, or_true, true_or, or_false, false_or, Bool.or_true, Bool.or_false, Bool.true_or, Bool.false_or, Nat.zero_le, Int.le_refl, Int.ofNat_zero, Int.ofNat_one, Bool.false_eq_true]
    exact hb0
  · exact hT.elim
set_option maxRecDepth 100000 in
theorem con_X4_share (l : Launch) (D : va_G) (ty : Nat → ClassId) (base : Nat) : ab_Con l D vwCl ty lw_ts base lw_wd yX4_share cX4_share 1 (some .double) 6 131 0 0 Tr_X4_share :=
  ab_con_of (own := RX4) (rt := 4) (tb := tbX4) (ini := false) (ca := ca_X4_share) (by decide +kernel) rfl (fun h => by cases h) rfl lw_wd_ok wtbX4 lw_ar cm_X4_share
    (fun p e R s m args below meth c K hcx => by
      obtain ⟨hx, hb, hml, hown, hF, rfl⟩ := hcx
      exact ab_lk_all (ab_all_c (ab_tc_V hx hb hml hown lw_wd_ok hF ⟨rfl, rfl⟩ (con_X4_covered l D ty base) rfl (lw_wi (by decide +kernel) (by decide +kernel)) (lw_wi (by decide +kernel) (by decide +kernel)) (lw_wi (by decide +kernel) (by decide +kernel)) (lw_wi (by decide +kernel) (by decide +kernel)) (lw_wi (by decide +kernel) (by decide +kernel)) (by decide +kernel) ⟨by decide, by decide⟩) (ab_all_n)))
    (by intro as h K ht; unfold Tr_X4_share at ht; split at ht <;> first | exact ht.elim | exact Nat.le_of_ble_eq_true rfl) (sem_X4_share base)
noncomputable def Tr_X4_digest : ATr := fun as h K => match as with
  | [.inr (.inl (some a))] => ab_so (ab_md h a) fun P => (bareV P.2 ∧ P.2.fnm 0 = 0 ∧ (True)) ∧ (True → ∀ h' v', ab_md h' a = some (P.1, v') → v'.thr = 0 → ab_kp h h' (mdL a P.1) → K (some (.inr (.inr (.inl dgF)))) h')
  | _ => False
theorem mo_X4_digest : ab_mo Tr_X4_digest := by
  intro as h K K' hk ht
  unfold Tr_X4_digest at ht ⊢
  split at ht
  · exact ab_so_mo (fun P q => ⟨q.1, fun e h' v' e1 e2 e3 => hk _ _ (q.2 e h' v' e1 e2 e3)⟩) ht
  · exact ht.elim
def ca_X4_digest : Nat → Option ACS := ab_lk [(124, (0, 4, 2, 0, 0, Tr_X4_counted)), (112, (0, 4, 4, 0, 0, Tr_X4_placeTold)), (97, (0, 4, 2, 0, 0, Tr_X4_dayTold))]
theorem ca_X4_digest_124 : ca_X4_digest 124 = some (0, 4, 2, 0, 0, Tr_X4_counted) := rfl
theorem ca_X4_digest_112 : ca_X4_digest 112 = some (0, 4, 4, 0, 0, Tr_X4_placeTold) := rfl
theorem ca_X4_digest_97 : ca_X4_digest 97 = some (0, 4, 2, 0, 0, Tr_X4_dayTold) := rfl
theorem cm_X4_digest : ∀ i q, ca_X4_digest i = some q → ab_moq i q := ab_lk_all (ab_all_c mo_X4_counted (ab_all_c mo_X4_placeTold (ab_all_c mo_X4_dayTold (ab_all_n))))
set_option maxRecDepth 100000 in
set_option maxHeartbeats 4000000 in
theorem sem_X4_digest (base : Nat) : ab_Sem tbX4 lw_ts base cX4_digest ca_X4_digest 5 5 0 0 (fun as => ab_en as 5) Tr_X4_digest := by
  intro as h K hT V hV
  unfold Tr_X4_digest at hT
  split at hT
  · rename_i a
    obtain ⟨⟨⟨b0, b1, b2, b3, b4, b5⟩, th, sl, f0, f1, f2, f3, f4, f5⟩, hP, ⟨hb, hs⟩, hK⟩ := ab_so_el hT
    obtain ⟨g0, g1, g2, g3, g4, g5⟩ := id hb
    dsimp only [MV.thr, MV.sl, MV.fst9, MV.fat, MV.frt, MV.ftb, MV.fnm, MV.fmk] at g0 g1 g2 g3 g4 g5 hK hs
    subst g0
    have hm := md_el hP
    obtain ⟨c, c0, c1, c2, c3, c4, c5, -⟩ := id hm
    dsimp only [mdC, MV.thr, MV.sl, MV.fst9, MV.fat, MV.frt, MV.ftb, MV.fnm, MV.fmk] at c c0 c1 c2 c3 c4 c5
    show V 0 [some (.inr (.inl (some a))), none, none, none, none] [] h 0 0
    obtain ⟨g6, hs⟩ := hs
    have hK0 := hK
    have body : ∀ h1, ab_md h1 a = some ((b0, b1, b2, b3, b4, b5), (0, 0, f0, f1, f2, f3, f4, f5)) → ab_fr h h1 (mdL a (b0, b1, b2, b3, b4, b5)) → V 5 [some (.inr (.inl (some a))), none, none, none, none] [] h1 0 0 := by
      intro h1 hP1 fr1
      have hm1 := md_el hP1
      have hb1 : bareV (0, 0, f0, f1, f2, f3, f4, f5) := hb
      obtain ⟨c', c0', c1', c2', c3', c4', c5', -⟩ := id hm1
      dsimp only [mdC, MV.thr, MV.sl, MV.fst9, MV.fat, MV.frt, MV.ftb, MV.fnm, MV.fmk] at c' c0' c1' c2' c3' c4' c5'
      have y0 : True → K (some (.inr (.inr (.inl dgF)))) h1 := fun e => hK0 e h1 _ hP1 rfl (ab_kp.of_fr fr1)
      have yy := y0 trivial
      rw [dgF_eq] at yy
      have loop4 : ∀ (n : Nat) (w d : Int) (u4 : Option AV), w + n = 7 → 0 ≤ w → K (some (.inr (.inr (.inl (dg5 n d))))) h1 → V 136 [some (.inr (.inl (some a))), some (.inr (.inr (.inl d))), none, some (.inl w), u4] [] h1 0 0 := by
        intro n
        induction n with
        | zero =>
          intro w d u4 e1 e2 hK
          simp only [dg5] at hK
          refine hV (fun p => p == 142) 80 _ _ _ _ _ _ ?_
          simp only [ae_bipush, ae_if_icmp, ae_iload_n, dX4_digest_136, dX4_digest_137, dX4_digest_139, ca_X4_digest_124, ca_X4_digest_112, ca_X4_digest_97, ab_wp0, ab_wps, ab_stp, ab_g, ab_st, ab_k2, ab_cl, ab_pop, ab_sz, ab_2, ab_ret, ab_f4, ab_tg, ab_I, ab_II, ab_A, ab_Rf, ab_VR, ab_IR, ab_VIR, ab_1, ab_LL, ab_DD, ab_ob, ab_pr, ab_qr, ab_ln, ab_so, ab_vI, ab_vA, ab_vD, ab_vL, ab_v2, ab_c, ab_fit, ab_rv, ab_tsw, ab_lsw, ab_up_eq, Fin.isValue, ab_f0, ab_f1, ab_f2, ab_f3, List.getElem?_cons_zero, List.getElem?_cons_succ, List.set_cons_zero, List.set_cons_succ, List.length_cons, List.length_nil, List.size_toArray, List.head?_cons, List.tail_cons, Option.map_some, cond_true, cond_false, true_and, and_true, false_and, and_false, not_true_eq_false, not_false_eq_true, true_imp_iff, false_imp_iff, if_true, if_false, ite_true, ite_false, ↓reduceIte, Nat.reduceAdd, Nat.reduceEqDiff, Nat.reduceLeDiff, Nat.reduceLT, Nat.reduceBEq, Nat.reduceBNe, Int.reduceAdd, Int.reduceNeg, Int.reduceSub, Int.reduceLE, Int.reduceLT, Int.reduceToNat, Int.reduceEq, Int.reduceMul, Int.cast_ofNat_Int, Nat.zero_add, Nat.add_zero, Nat.le_refl, eq_self, ne_eq, reduceCtorEq, or_true, true_or, or_false, false_or, Bool.or_true, Bool.or_false, Bool.true_or, Bool.false_or, Nat.zero_le, Int.le_refl, Int.ofNat_zero, Int.ofNat_one, Bool.false_eq_true, ae_lload_n, ae_lreturn, dX4_digest_177, dX4_digest_178, ca_X4_digest_124, ca_X4_digest_112, ca_X4_digest_97, ab_wp0, ab_wps, ab_stp, ab_g, ab_st, ab_k2, ab_cl, ab_pop, ab_sz, ab_2, ab_ret, ab_f4, ab_tg, ab_I, ab_II, ab_A, ab_Rf, ab_VR, ab_IR, ab_VIR, ab_1, ab_LL, ab_DD, ab_ob, ab_pr, ab_qr, ab_ln, ab_so, ab_vI, ab_vA, ab_vD, ab_vL, ab_v2, ab_c, ab_fit, ab_rv, ab_tsw, ab_lsw, ab_up_eq, Fin.isValue, ab_f0, ab_f1, ab_f2, ab_f3, List.getElem?_cons_zero, List.getElem?_cons_succ, List.set_cons_zero, List.set_cons_succ, List.length_cons, List.length_nil, List.size_toArray, List.head?_cons, List.tail_cons, Option.map_some, cond_true, cond_false, true_and, and_true, false_and, and_false, not_true_eq_false, not_false_eq_true, true_imp_iff, false_imp_iff, if_true, if_false, ite_true, ite_false, ↓reduceIte, Nat.reduceAdd, Nat.reduceEqDiff, Nat.reduceLeDiff, Nat.reduceLT, Nat.reduceBEq, Nat.reduceBNe, Int.reduceAdd, Int.reduceNeg, Int.reduceSub, Int.reduceLE, Int.reduceLT, Int.reduceToNat, Int.reduceEq, Int.reduceMul, Int.cast_ofNat_Int, Nat.zero_add, Nat.add_zero, Nat.le_refl, eq_self, ne_eq, reduceCtorEq, or_true, true_or, or_false, false_or, Bool.or_true, Bool.or_false, Bool.true_or, Bool.false_or, Nat.zero_le, Int.le_refl, Int.ofNat_zero, Int.ofNat_one, Bool.false_eq_true]
          simp only [ab_in]
          (repeat' (first | intro _ | refine And.intro ?_ ?_)) <;> (first | exact hK | contradiction | omega | (exfalso; omega))
        | succ n ih =>
          intro w d u4 e1 e2 hK
          simp only [dg5] at hK
          have ih' := ih (w + 1) _ u4 (by omega) (by omega) hK
          have hv := g3 (4 * w + 1) (by omega) (by omega)
          have l142 : V 142 [some (.inr (.inl (some a))), some (.inr (.inr (.inl d))), none, some (.inl w), u4] [] h1 0 0 := by
            refine hV (fun p => p == 136) 80 _ _ _ _ _ _ ?_
            simp only [c', c3', hv, hP1, hb1, bI_in, bI_0, bI_1, bI_t, bI_f, bI_01, Tr_X4_dayTold, ae_aload_n, ae_getfield, ae_goto, ae_i2l, ae_iadd, ae_iaload, ae_iconst, ae_iinc, ae_iload_n, ae_imul, ae_invokevirtual, ae_ladd, ae_ldc2_w, ae_lload_n, ae_lmul, ae_lstore_n, dX4_digest_142, dX4_digest_143, dX4_digest_146, dX4_digest_147, dX4_digest_148, dX4_digest_149, dX4_digest_152, dX4_digest_153, dX4_digest_154, dX4_digest_157, dX4_digest_158, dX4_digest_159, dX4_digest_162, dX4_digest_163, dX4_digest_164, dX4_digest_165, dX4_digest_166, dX4_digest_167, dX4_digest_168, dX4_digest_169, dX4_digest_170, dX4_digest_171, dX4_digest_174, tbX4_c185, tbX4_g19, ca_X4_digest_124, ca_X4_digest_112, ca_X4_digest_97, ab_wp0, ab_wps, ab_stp, ab_g, ab_st, ab_k2, ab_cl, ab_pop, ab_sz, ab_2, ab_ret, ab_f4, ab_tg, ab_I, ab_II, ab_A, ab_Rf, ab_VR, ab_IR, ab_VIR, ab_1, ab_LL, ab_DD, ab_ob, ab_pr, ab_qr, ab_ln, ab_so, ab_vI, ab_vA, ab_vD, ab_vL, ab_v2, ab_c, ab_fit, ab_rv, ab_tsw, ab_lsw, ab_up_eq, Fin.isValue, ab_f0, ab_f1, ab_f2, ab_f3, List.getElem?_cons_zero, List.getElem?_cons_succ, List.set_cons_zero, List.set_cons_succ, List.length_cons, List.length_nil, List.size_toArray, List.head?_cons, List.tail_cons, Option.map_some, cond_true, cond_false, true_and, and_true, false_and, and_false, not_true_eq_false, not_false_eq_true, true_imp_iff, false_imp_iff, if_true, if_false, ite_true, ite_false, ↓reduceIte, Nat.reduceAdd, Nat.reduceEqDiff, Nat.reduceLeDiff, Nat.reduceLT, Nat.reduceBEq, Nat.reduceBNe, Int.reduceAdd, Int.reduceNeg, Int.reduceSub, Int.reduceLE, Int.reduceLT, Int.reduceToNat, Int.reduceEq, Int.reduceMul, Int.cast_ofNat_Int, Nat.zero_add, Nat.add_zero, Nat.le_refl, eq_self, ne_eq, reduceCtorEq, or_true, true_or, or_false, false_or, Bool.or_true, Bool.or_false, Bool.true_or, Bool.false_or, Nat.zero_le, Int.le_refl, Int.ofNat_zero, Int.ofNat_one, Bool.false_eq_true]
            try simp only [ab_in]
            (repeat' (first | intro _ | refine And.intro ?_ ?_)) <;> (first | exact ih' | contradiction | omega | (exfalso; omega))
          refine hV (fun p => bif p == 142 then true else p == 177) 80 _ _ _ _ _ _ ?_
          simp only [ae_bipush, ae_if_icmp, ae_iload_n, dX4_digest_136, dX4_digest_137, dX4_digest_139, ca_X4_digest_124, ca_X4_digest_112, ca_X4_digest_97, ab_wp0, ab_wps, ab_stp, ab_g, ab_st, ab_k2, ab_cl, ab_pop, ab_sz, ab_2, ab_ret, ab_f4, ab_tg, ab_I, ab_II, ab_A, ab_Rf, ab_VR, ab_IR, ab_VIR, ab_1, ab_LL, ab_DD, ab_ob, ab_pr, ab_qr, ab_ln, ab_so, ab_vI, ab_vA, ab_vD, ab_vL, ab_v2, ab_c, ab_fit, ab_rv, ab_tsw, ab_lsw, ab_up_eq, Fin.isValue, ab_f0, ab_f1, ab_f2, ab_f3, List.getElem?_cons_zero, List.getElem?_cons_succ, List.set_cons_zero, List.set_cons_succ, List.length_cons, List.length_nil, List.size_toArray, List.head?_cons, List.tail_cons, Option.map_some, cond_true, cond_false, true_and, and_true, false_and, and_false, not_true_eq_false, not_false_eq_true, true_imp_iff, false_imp_iff, if_true, if_false, ite_true, ite_false, ↓reduceIte, Nat.reduceAdd, Nat.reduceEqDiff, Nat.reduceLeDiff, Nat.reduceLT, Nat.reduceBEq, Nat.reduceBNe, Int.reduceAdd, Int.reduceNeg, Int.reduceSub, Int.reduceLE, Int.reduceLT, Int.reduceToNat, Int.reduceEq, Int.reduceMul, Int.cast_ofNat_Int, Nat.zero_add, Nat.add_zero, Nat.le_refl, eq_self, ne_eq, reduceCtorEq, or_true, true_or, or_false, false_or, Bool.or_true, Bool.or_false, Bool.true_or, Bool.false_or, Nat.zero_le, Int.le_refl, Int.ofNat_zero, Int.ofNat_one, Bool.false_eq_true]
          simp only [ab_in]
          (repeat' (first | intro _ | refine And.intro ?_ ?_)) <;> (first | exact l142 | contradiction | omega | (exfalso; omega))
      have loop3 : ∀ (n : Nat) (w d : Int) (u4 : Option AV), w + n = 96 → 0 ≤ w → K (some (.inr (.inr (.inl (dg5 7 (dg3 n d)))))) h1 → V 85 [some (.inr (.inl (some a))), some (.inr (.inr (.inl d))), none, some (.inl w), u4] [] h1 0 0 := by
        intro n
        induction n with
        | zero =>
          intro w d u4 e1 e2 hK
          simp only [dg3] at hK
          have l4 := loop4 7 0 d u4 (by omega) (by omega) hK
          refine hV (fun p => bif p == 136 then true else p == 91) 80 _ _ _ _ _ _ ?_
          simp only [ae_bipush, ae_if_icmp, ae_iload_n, dX4_digest_85, dX4_digest_86, dX4_digest_88, ca_X4_digest_124, ca_X4_digest_112, ca_X4_digest_97, ab_wp0, ab_wps, ab_stp, ab_g, ab_st, ab_k2, ab_cl, ab_pop, ab_sz, ab_2, ab_ret, ab_f4, ab_tg, ab_I, ab_II, ab_A, ab_Rf, ab_VR, ab_IR, ab_VIR, ab_1, ab_LL, ab_DD, ab_ob, ab_pr, ab_qr, ab_ln, ab_so, ab_vI, ab_vA, ab_vD, ab_vL, ab_v2, ab_c, ab_fit, ab_rv, ab_tsw, ab_lsw, ab_up_eq, Fin.isValue, ab_f0, ab_f1, ab_f2, ab_f3, List.getElem?_cons_zero, List.getElem?_cons_succ, List.set_cons_zero, List.set_cons_succ, List.length_cons, List.length_nil, List.size_toArray, List.head?_cons, List.tail_cons, Option.map_some, cond_true, cond_false, true_and, and_true, false_and, and_false, not_true_eq_false, not_false_eq_true, true_imp_iff, false_imp_iff, if_true, if_false, ite_true, ite_false, ↓reduceIte, Nat.reduceAdd, Nat.reduceEqDiff, Nat.reduceLeDiff, Nat.reduceLT, Nat.reduceBEq, Nat.reduceBNe, Int.reduceAdd, Int.reduceNeg, Int.reduceSub, Int.reduceLE, Int.reduceLT, Int.reduceToNat, Int.reduceEq, Int.reduceMul, Int.cast_ofNat_Int, Nat.zero_add, Nat.add_zero, Nat.le_refl, eq_self, ne_eq, reduceCtorEq, or_true, true_or, or_false, false_or, Bool.or_true, Bool.or_false, Bool.true_or, Bool.false_or, Nat.zero_le, Int.le_refl, Int.ofNat_zero, Int.ofNat_one, Bool.false_eq_true, ae_iconst, ae_istore_n, dX4_digest_134, dX4_digest_135, ca_X4_digest_124, ca_X4_digest_112, ca_X4_digest_97, ab_wp0, ab_wps, ab_stp, ab_g, ab_st, ab_k2, ab_cl, ab_pop, ab_sz, ab_2, ab_ret, ab_f4, ab_tg, ab_I, ab_II, ab_A, ab_Rf, ab_VR, ab_IR, ab_VIR, ab_1, ab_LL, ab_DD, ab_ob, ab_pr, ab_qr, ab_ln, ab_so, ab_vI, ab_vA, ab_vD, ab_vL, ab_v2, ab_c, ab_fit, ab_rv, ab_tsw, ab_lsw, ab_up_eq, Fin.isValue, ab_f0, ab_f1, ab_f2, ab_f3, List.getElem?_cons_zero, List.getElem?_cons_succ, List.set_cons_zero, List.set_cons_succ, List.length_cons, List.length_nil, List.size_toArray, List.head?_cons, List.tail_cons, Option.map_some, cond_true, cond_false, true_and, and_true, false_and, and_false, not_true_eq_false, not_false_eq_true, true_imp_iff, false_imp_iff, if_true, if_false, ite_true, ite_false, ↓reduceIte, Nat.reduceAdd, Nat.reduceEqDiff, Nat.reduceLeDiff, Nat.reduceLT, Nat.reduceBEq, Nat.reduceBNe, Int.reduceAdd, Int.reduceNeg, Int.reduceSub, Int.reduceLE, Int.reduceLT, Int.reduceToNat, Int.reduceEq, Int.reduceMul, Int.cast_ofNat_Int, Nat.zero_add, Nat.add_zero, Nat.le_refl, eq_self, ne_eq, reduceCtorEq, or_true, true_or, or_false, false_or, Bool.or_true, Bool.or_false, Bool.true_or, Bool.false_or, Nat.zero_le, Int.le_refl, Int.ofNat_zero, Int.ofNat_one, Bool.false_eq_true]
          simp only [ab_in]
          (repeat' (first | intro _ | refine And.intro ?_ ?_)) <;> (first | exact l4 | contradiction | omega | (exfalso; omega))
        | succ n ih =>
          intro w d u4 e1 e2 hK
          simp only [dg3] at hK
          have ih' := ih (w + 1) _ (some (.inl 3)) (by omega) (by omega) hK
          have t1 : Int.tmod w 12 = w % 12 := Int.tmod_eq_emod_of_nonneg e2
          have t2 : Int.tdiv w 12 = w / 12 := Int.tdiv_eq_ediv_of_nonneg e2
          have l91 : V 91 [some (.inr (.inl (some a))), some (.inr (.inr (.inl d))), none, some (.inl w), u4] [] h1 0 0 := by
            refine hV (fun p => p == 85) 80 _ _ _ _ _ _ ?_
            simp only [c', hP1, hb1, t1, t2, bI_in, bI_0, bI_1, bI_t, bI_f, bI_01, Tr_X4_placeTold, ae_aload_n, ae_bipush, ae_goto, ae_i2l, ae_iconst, ae_idiv, ae_if_icmp, ae_iinc, ae_iload, ae_iload_n, ae_invokevirtual, ae_irem, ae_istore, ae_ladd, ae_ldc2_w, ae_lload_n, ae_lmul, ae_lstore_n, dX4_digest_91, dX4_digest_92, dX4_digest_94, dX4_digest_96, dX4_digest_97, dX4_digest_100, dX4_digest_101, dX4_digest_104, dX4_digest_105, dX4_digest_106, dX4_digest_107, dX4_digest_109, dX4_digest_110, dX4_digest_111, dX4_digest_113, dX4_digest_114, dX4_digest_116, dX4_digest_119, dX4_digest_120, dX4_digest_121, dX4_digest_122, dX4_digest_125, dX4_digest_128, dX4_digest_131, tbX4_c185, ca_X4_digest_124, ca_X4_digest_112, ca_X4_digest_97, ab_wp0, ab_wps, ab_stp, ab_g, ab_st, ab_k2, ab_cl, ab_pop, ab_sz, ab_2, ab_ret, ab_f4, ab_tg, ab_I, ab_II, ab_A, ab_Rf, ab_VR, ab_IR, ab_VIR, ab_1, ab_LL, ab_DD, ab_ob, ab_pr, ab_qr, ab_ln, ab_so, ab_vI, ab_vA, ab_vD, ab_vL, ab_v2, ab_c, ab_fit, ab_rv, ab_tsw, ab_lsw, ab_up_eq, Fin.isValue, ab_f0, ab_f1, ab_f2, ab_f3, List.getElem?_cons_zero, List.getElem?_cons_succ, List.set_cons_zero, List.set_cons_succ, List.length_cons, List.length_nil, List.size_toArray, List.head?_cons, List.tail_cons, Option.map_some, cond_true, cond_false, true_and, and_true, false_and, and_false, not_true_eq_false, not_false_eq_true, true_imp_iff, false_imp_iff, if_true, if_false, ite_true, ite_false, ↓reduceIte, Nat.reduceAdd, Nat.reduceEqDiff, Nat.reduceLeDiff, Nat.reduceLT, Nat.reduceBEq, Nat.reduceBNe, Int.reduceAdd, Int.reduceNeg, Int.reduceSub, Int.reduceLE, Int.reduceLT, Int.reduceToNat, Int.reduceEq, Int.reduceMul, Int.cast_ofNat_Int, Nat.zero_add, Nat.add_zero, Nat.le_refl, eq_self, ne_eq, reduceCtorEq, or_true, true_or, or_false, false_or, Bool.or_true, Bool.or_false, Bool.true_or, Bool.false_or, Nat.zero_le, Int.le_refl, Int.ofNat_zero, Int.ofNat_one, Bool.false_eq_true]
            try simp only [ab_in]
            (repeat' (first | intro _ | refine And.intro ?_ ?_)) <;> (first | exact ih' | contradiction | omega | (exfalso; omega))
          refine hV (fun p => bif p == 91 then true else p == 134) 80 _ _ _ _ _ _ ?_
          simp only [ae_bipush, ae_if_icmp, ae_iload_n, dX4_digest_85, dX4_digest_86, dX4_digest_88, ca_X4_digest_124, ca_X4_digest_112, ca_X4_digest_97, ab_wp0, ab_wps, ab_stp, ab_g, ab_st, ab_k2, ab_cl, ab_pop, ab_sz, ab_2, ab_ret, ab_f4, ab_tg, ab_I, ab_II, ab_A, ab_Rf, ab_VR, ab_IR, ab_VIR, ab_1, ab_LL, ab_DD, ab_ob, ab_pr, ab_qr, ab_ln, ab_so, ab_vI, ab_vA, ab_vD, ab_vL, ab_v2, ab_c, ab_fit, ab_rv, ab_tsw, ab_lsw, ab_up_eq, Fin.isValue, ab_f0, ab_f1, ab_f2, ab_f3, List.getElem?_cons_zero, List.getElem?_cons_succ, List.set_cons_zero, List.set_cons_succ, List.length_cons, List.length_nil, List.size_toArray, List.head?_cons, List.tail_cons, Option.map_some, cond_true, cond_false, true_and, and_true, false_and, and_false, not_true_eq_false, not_false_eq_true, true_imp_iff, false_imp_iff, if_true, if_false, ite_true, ite_false, ↓reduceIte, Nat.reduceAdd, Nat.reduceEqDiff, Nat.reduceLeDiff, Nat.reduceLT, Nat.reduceBEq, Nat.reduceBNe, Int.reduceAdd, Int.reduceNeg, Int.reduceSub, Int.reduceLE, Int.reduceLT, Int.reduceToNat, Int.reduceEq, Int.reduceMul, Int.cast_ofNat_Int, Nat.zero_add, Nat.add_zero, Nat.le_refl, eq_self, ne_eq, reduceCtorEq, or_true, true_or, or_false, false_or, Bool.or_true, Bool.or_false, Bool.true_or, Bool.false_or, Nat.zero_le, Int.le_refl, Int.ofNat_zero, Int.ofNat_one, Bool.false_eq_true]
          simp only [ab_in]
          (repeat' (first | intro _ | refine And.intro ?_ ?_)) <;> (first | exact l91 | contradiction | omega | (exfalso; omega))
      have loop1 : ∀ (n : Nat) (w d : Int), w + n = 7 → 0 ≤ w → K (some (.inr (.inr (.inl (dg5 7 (dg3 96 (dg1 n d))))))) h1 → V 11 [some (.inr (.inl (some a))), some (.inr (.inr (.inl d))), none, some (.inl w), none] [] h1 0 0 := by
        intro n
        induction n with
        | zero =>
          intro w d e1 e2 hK
          simp only [dg1] at hK
          have l3 := loop3 96 0 d none (by omega) (by omega) hK
          refine hV (fun p => bif p == 85 then true else bif p == 17 then true else p == 46) 80 _ _ _ _ _ _ ?_
          simp only [c', ae_aload_n, ae_bipush, ae_getfield, ae_goto, ae_i2l, ae_iconst, ae_if_icmp, ae_iinc, ae_iload, ae_iload_n, ae_invokevirtual, ae_istore, ae_istore_n, ae_ladd, ae_ldc2_w, ae_lload_n, ae_lmul, ae_lstore_n, dX4_digest_11, dX4_digest_12, dX4_digest_14, dX4_digest_17, dX4_digest_18, dX4_digest_21, dX4_digest_22, dX4_digest_23, dX4_digest_24, dX4_digest_27, dX4_digest_28, dX4_digest_29, dX4_digest_30, dX4_digest_33, dX4_digest_36, dX4_digest_37, dX4_digest_38, dX4_digest_39, dX4_digest_40, dX4_digest_43, dX4_digest_46, dX4_digest_47, dX4_digest_49, dX4_digest_51, dX4_digest_53, dX4_digest_56, dX4_digest_57, dX4_digest_60, dX4_digest_61, dX4_digest_62, dX4_digest_63, dX4_digest_65, dX4_digest_68, dX4_digest_69, dX4_digest_70, dX4_digest_71, dX4_digest_74, dX4_digest_77, dX4_digest_80, dX4_digest_83, dX4_digest_84, tbX4_c185, tbX4_g33, ca_X4_digest_124, ca_X4_digest_112, ca_X4_digest_97, ab_wp0, ab_wps, ab_stp, ab_g, ab_st, ab_k2, ab_cl, ab_pop, ab_sz, ab_2, ab_ret, ab_f4, ab_tg, ab_I, ab_II, ab_A, ab_Rf, ab_VR, ab_IR, ab_VIR, ab_1, ab_LL, ab_DD, ab_ob, ab_pr, ab_qr, ab_ln, ab_so, ab_vI, ab_vA, ab_vD, ab_vL, ab_v2, ab_c, ab_fit, ab_rv, ab_tsw, ab_lsw, ab_up_eq, Fin.isValue, ab_f0, ab_f1, ab_f2, ab_f3, List.getElem?_cons_zero, List.getElem?_cons_succ, List.set_cons_zero, List.set_cons_succ, List.length_cons, List.length_nil, List.size_toArray, List.head?_cons, List.tail_cons, Option.map_some, cond_true, cond_false, true_and, and_true, false_and, and_false, not_true_eq_false, not_false_eq_true, true_imp_iff, false_imp_iff, if_true, if_false, ite_true, ite_false, ↓reduceIte, Nat.reduceAdd, Nat.reduceEqDiff, Nat.reduceLeDiff, Nat.reduceLT, Nat.reduceBEq, Nat.reduceBNe, Int.reduceAdd, Int.reduceNeg, Int.reduceSub, Int.reduceLE, Int.reduceLT, Int.reduceToNat, Int.reduceEq, Int.reduceMul, Int.cast_ofNat_Int, Nat.zero_add, Nat.add_zero, Nat.le_refl, eq_self, ne_eq, reduceCtorEq, or_true, true_or, or_false, false_or, Bool.or_true, Bool.or_false, Bool.true_or, Bool.false_or, Nat.zero_le, Int.le_refl, Int.ofNat_zero, Int.ofNat_one, Bool.false_eq_true]
          simp only [ab_in]
          (repeat' (first | intro _ | refine And.intro ?_ ?_)) <;> (first | exact l3 | contradiction | omega | (exfalso; omega))
        | succ n ih =>
          intro w d e1 e2 hK
          simp only [dg1] at hK
          have ih' := ih (w + 1) _ (by omega) (by omega) hK
          have e9 : (if w = 0 then f4 0 else 0) = (0 : Int) := by split; exact g6; rfl
          have l17 : V 17 [some (.inr (.inl (some a))), some (.inr (.inr (.inl d))), none, some (.inl w), none] [] h1 0 0 := by
            refine hV (fun p => p == 11) 80 _ _ _ _ _ _ ?_
            simp only [c', hP1, hb1, e9, bI_in, bI_0, bI_1, bI_t, bI_f, bI_01, Tr_X4_counted, ae_aload_n, ae_goto, ae_i2l, ae_iinc, ae_iload_n, ae_invokevirtual, ae_ladd, ae_ldc2_w, ae_lload_n, ae_lmul, ae_lstore_n, dX4_digest_17, dX4_digest_18, dX4_digest_21, dX4_digest_22, dX4_digest_23, dX4_digest_24, dX4_digest_27, dX4_digest_28, dX4_digest_29, dX4_digest_30, dX4_digest_33, tbX4_c185, ca_X4_digest_124, ca_X4_digest_112, ca_X4_digest_97, ab_wp0, ab_wps, ab_stp, ab_g, ab_st, ab_k2, ab_cl, ab_pop, ab_sz, ab_2, ab_ret, ab_f4, ab_tg, ab_I, ab_II, ab_A, ab_Rf, ab_VR, ab_IR, ab_VIR, ab_1, ab_LL, ab_DD, ab_ob, ab_pr, ab_qr, ab_ln, ab_so, ab_vI, ab_vA, ab_vD, ab_vL, ab_v2, ab_c, ab_fit, ab_rv, ab_tsw, ab_lsw, ab_up_eq, Fin.isValue, ab_f0, ab_f1, ab_f2, ab_f3, List.getElem?_cons_zero, List.getElem?_cons_succ, List.set_cons_zero, List.set_cons_succ, List.length_cons, List.length_nil, List.size_toArray, List.head?_cons, List.tail_cons, Option.map_some, cond_true, cond_false, true_and, and_true, false_and, and_false, not_true_eq_false, not_false_eq_true, true_imp_iff, false_imp_iff, if_true, if_false, ite_true, ite_false, ↓reduceIte, Nat.reduceAdd, Nat.reduceEqDiff, Nat.reduceLeDiff, Nat.reduceLT, Nat.reduceBEq, Nat.reduceBNe, Int.reduceAdd, Int.reduceNeg, Int.reduceSub, Int.reduceLE, Int.reduceLT, Int.reduceToNat, Int.reduceEq, Int.reduceMul, Int.cast_ofNat_Int, Nat.zero_add, Nat.add_zero, Nat.le_refl, eq_self, ne_eq, reduceCtorEq, or_true, true_or, or_false, false_or, Bool.or_true, Bool.or_false, Bool.true_or, Bool.false_or, Nat.zero_le, Int.le_refl, Int.ofNat_zero, Int.ofNat_one, Bool.false_eq_true]
            try simp only [ab_in]
            (repeat' (first | intro _ | refine And.intro ?_ ?_)) <;> (first | exact ih' | contradiction | omega | (exfalso; omega))
          refine hV (fun p => bif p == 17 then true else p == 36) 80 _ _ _ _ _ _ ?_
          simp only [ae_bipush, ae_if_icmp, ae_iload_n, dX4_digest_11, dX4_digest_12, dX4_digest_14, ca_X4_digest_124, ca_X4_digest_112, ca_X4_digest_97, ab_wp0, ab_wps, ab_stp, ab_g, ab_st, ab_k2, ab_cl, ab_pop, ab_sz, ab_2, ab_ret, ab_f4, ab_tg, ab_I, ab_II, ab_A, ab_Rf, ab_VR, ab_IR, ab_VIR, ab_1, ab_LL, ab_DD, ab_ob, ab_pr, ab_qr, ab_ln, ab_so, ab_vI, ab_vA, ab_vD, ab_vL, ab_v2, ab_c, ab_fit, ab_rv, ab_tsw, ab_lsw, ab_up_eq, Fin.isValue, ab_f0, ab_f1, ab_f2, ab_f3, List.getElem?_cons_zero, List.getElem?_cons_succ, List.set_cons_zero, List.set_cons_succ, List.length_cons, List.length_nil, List.size_toArray, List.head?_cons, List.tail_cons, Option.map_some, cond_true, cond_false, true_and, and_true, false_and, and_false, not_true_eq_false, not_false_eq_true, true_imp_iff, false_imp_iff, if_true, if_false, ite_true, ite_false, ↓reduceIte, Nat.reduceAdd, Nat.reduceEqDiff, Nat.reduceLeDiff, Nat.reduceLT, Nat.reduceBEq, Nat.reduceBNe, Int.reduceAdd, Int.reduceNeg, Int.reduceSub, Int.reduceLE, Int.reduceLT, Int.reduceToNat, Int.reduceEq, Int.reduceMul, Int.cast_ofNat_Int, Nat.zero_add, Nat.add_zero, Nat.le_refl, eq_self, ne_eq, reduceCtorEq, or_true, true_or, or_false, false_or, Bool.or_true, Bool.or_false, Bool.true_or, Bool.false_or, Nat.zero_le, Int.le_refl, Int.ofNat_zero, Int.ofNat_one, Bool.false_eq_true]
          simp only [ab_in]
          (repeat' (first | intro _ | refine And.intro ?_ ?_)) <;> (first | exact l17 | contradiction | omega | (exfalso; omega))
      have l0 := loop1 7 0 919 (by omega) (by omega) yy
      refine hV (fun p => p == 11) 80 _ _ _ _ _ _ ?_
      simp only [ae_iconst, ae_istore_n, ae_ldc2_w, ae_lstore_n, dX4_digest_5, dX4_digest_8, dX4_digest_9, dX4_digest_10, tbX4_c183, ca_X4_digest_124, ca_X4_digest_112, ca_X4_digest_97, ab_wp0, ab_wps, ab_stp, ab_g, ab_st, ab_k2, ab_cl, ab_pop, ab_sz, ab_2, ab_ret, ab_f4, ab_tg, ab_I, ab_II, ab_A, ab_Rf, ab_VR, ab_IR, ab_VIR, ab_1, ab_LL, ab_DD, ab_ob, ab_pr, ab_qr, ab_ln, ab_so, ab_vI, ab_vA, ab_vD, ab_vL, ab_v2, ab_c, ab_fit, ab_rv, ab_tsw, ab_lsw, ab_up_eq, Fin.isValue, ab_f0, ab_f1, ab_f2, ab_f3, List.getElem?_cons_zero, List.getElem?_cons_succ, List.set_cons_zero, List.set_cons_succ, List.length_cons, List.length_nil, List.size_toArray, List.head?_cons, List.tail_cons, Option.map_some, cond_true, cond_false, true_and, and_true, false_and, and_false, not_true_eq_false, not_false_eq_true, true_imp_iff, false_imp_iff, if_true, if_false, ite_true, ite_false, ↓reduceIte, Nat.reduceAdd, Nat.reduceEqDiff, Nat.reduceLeDiff, Nat.reduceLT, Nat.reduceBEq, Nat.reduceBNe, Int.reduceAdd, Int.reduceNeg, Int.reduceSub, Int.reduceLE, Int.reduceLT, Int.reduceToNat, Int.reduceEq, Int.reduceMul, Int.cast_ofNat_Int, Nat.zero_add, Nat.add_zero, Nat.le_refl, eq_self, ne_eq, reduceCtorEq, or_true, true_or, or_false, false_or, Bool.or_true, Bool.or_false, Bool.true_or, Bool.false_or, Nat.zero_le, Int.le_refl, Int.ofNat_zero, Int.ofNat_one, Bool.false_eq_true]
      exact l0
    have hb0 := body _ (md_of (md_thr hm 0)) (ab_fr.rf.up md_inL.1)
    dsimp only [mdC] at hb0
    refine hV (fun p => p == 5) 80 _ _ _ _ _ _ ?_
    simp only [c, ae_aload_n, ae_iconst, ae_putfield, dX4_digest_0, dX4_digest_1, dX4_digest_2, tbX4_p29, ca_X4_digest_124, ca_X4_digest_112, ca_X4_digest_97, ab_wp0, ab_wps, ab_stp, ab_g, ab_st, ab_k2, ab_cl, ab_pop, ab_sz, ab_2, ab_ret, ab_f4, ab_tg, ab_I, ab_II, ab_A, ab_Rf, ab_VR, ab_IR, ab_VIR, ab_1, ab_LL, ab_DD, ab_ob, ab_pr, ab_qr, ab_ln, ab_so, ab_vI, ab_vA, ab_vD, ab_vL, ab_v2, ab_c, ab_fit, ab_rv, ab_tsw, ab_lsw, ab_up_eq, Fin.isValue, ab_f0, ab_f1, ab_f2, ab_f3, List.getElem?_cons_zero, List.getElem?_cons_succ, List.set_cons_zero, List.set_cons_succ, List.length_cons, List.length_nil, List.size_toArray, List.head?_cons, List.tail_cons, Option.map_some, cond_true, cond_false, true_and, and_true, false_and, and_false, not_true_eq_false, not_false_eq_true, true_imp_iff, false_imp_iff, if_true, if_false, ite_true, ite_false, ↓reduceIte, Nat.reduceAdd, Nat.reduceEqDiff, Nat.reduceLeDiff, Nat.reduceLT, Nat.reduceBEq, Nat.reduceBNe, Int.reduceAdd, Int.reduceNeg, Int.reduceSub, Int.reduceLE, Int.reduceLT, Int.reduceToNat, Int.reduceEq, Int.reduceMul, Int.cast_ofNat_Int, Nat.zero_add, Nat.add_zero, Nat.le_refl, eq_self, ne_eq, reduceCtorEq, or_true, true_or, or_false, false_or, Bool.or_true, Bool.or_false, Bool.true_or, Bool.false_or, Nat.zero_le, Int.le_refl, Int.ofNat_zero, Int.ofNat_one, Bool.false_eq_true]
    exact hb0
  · exact hT.elim
set_option maxRecDepth 100000 in
theorem con_X4_digest (l : Launch) (D : va_G) (ty : Nat → ClassId) (base : Nat) : ab_Con l D vwCl ty lw_ts base lw_wd yX4_digest cX4_digest 5 (some .long) 7 152 0 0 Tr_X4_digest :=
  ab_con_of (own := RX4) (rt := 5) (tb := tbX4) (ini := false) (ca := ca_X4_digest) (by decide +kernel) rfl (fun h => by cases h) rfl lw_wd_ok wtbX4 lw_ar cm_X4_digest
    (fun p e R s m args below meth c K hcx => by
      obtain ⟨hx, hb, hml, hown, hF, rfl⟩ := hcx
      exact ab_lk_all (ab_all_c (ab_tc_V hx hb hml hown lw_wd_ok hF ⟨rfl, rfl⟩ (con_X4_counted l D ty base) rfl (lw_wi (by decide +kernel) (by decide +kernel)) (lw_wi (by decide +kernel) (by decide +kernel)) (lw_wi (by decide +kernel) (by decide +kernel)) (lw_wi (by decide +kernel) (by decide +kernel)) (lw_wi (by decide +kernel) (by decide +kernel)) (by decide +kernel) ⟨by decide, by decide⟩) (ab_all_c (ab_tc_V hx hb hml hown lw_wd_ok hF ⟨rfl, rfl⟩ (con_X4_placeTold l D ty base) rfl (lw_wi (by decide +kernel) (by decide +kernel)) (lw_wi (by decide +kernel) (by decide +kernel)) (lw_wi (by decide +kernel) (by decide +kernel)) (lw_wi (by decide +kernel) (by decide +kernel)) (lw_wi (by decide +kernel) (by decide +kernel)) (by decide +kernel) ⟨by decide, by decide⟩) (ab_all_c (ab_tc_V hx hb hml hown lw_wd_ok hF ⟨rfl, rfl⟩ (con_X4_dayTold l D ty base) rfl (lw_wi (by decide +kernel) (by decide +kernel)) (lw_wi (by decide +kernel) (by decide +kernel)) (lw_wi (by decide +kernel) (by decide +kernel)) (lw_wi (by decide +kernel) (by decide +kernel)) (lw_wi (by decide +kernel) (by decide +kernel)) (by decide +kernel) ⟨by decide, by decide⟩) (ab_all_n)))))
    (by intro as h K ht; unfold Tr_X4_digest at ht; split at ht <;> first | exact ht.elim | exact Nat.le_of_ble_eq_true rfl) (sem_X4_digest base)
