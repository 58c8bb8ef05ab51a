/-! ===== the reference: what a storm would do; one more slate; where best ===== -/
noncomputable def Tr_X4_would : ATr := fun as h K => match as with
  | [.inr (.inl (some a)), .inl force, .inl right, .inl what] => ab_so (ab_md h a) fun P => (bareV P.2 ∧ ((0 ≤ force ∧ force ≤ 20) ∧ (right = 0 ∨ right = 1) ∧ 0 ≤ what ∧ what ≤ 2)) ∧ ∀ h' v', ab_md h' a = some (P.1, v') → (bareV v' ∧ v'.thr = P.2.thr) → ab_kp h h' (mdL a P.1) → K (some (.inl (if what = 1 then (if force = 0 then 0 else 1) else 0))) h'
  | _ => False
theorem mo_X4_would : ab_mo Tr_X4_would := by
  intro as h K K' hk ht
  unfold Tr_X4_would at ht ⊢
  split at ht
  · exact ab_so_mo (fun P q => ⟨q.1, fun h' v' e1 e2 e3 => hk _ _ (q.2 h' v' e1 e2 e3)⟩) ht
  · exact ht.elim
def ca_X4_would : Nat → Option ACS := ab_lk [(140, (0, 4, 1, 5, 4804, Tr_X4_kept)), (144, (0, 4, 3, 0, 0, Tr_X4_blow)), (118, (0, 4, 1, 0, 0, Tr_X4_covered)), (147, (0, 4, 2, 1, 4, Tr_X4_bringBack))]
theorem ca_X4_would_140 : ca_X4_would 140 = some (0, 4, 1, 5, 4804, Tr_X4_kept) := rfl
theorem ca_X4_would_144 : ca_X4_would 144 = some (0, 4, 3, 0, 0, Tr_X4_blow) := rfl
theorem ca_X4_would_118 : ca_X4_would 118 = some (0, 4, 1, 0, 0, Tr_X4_covered) := rfl
theorem ca_X4_would_147 : ca_X4_would 147 = some (0, 4, 2, 1, 4, Tr_X4_bringBack) := rfl
theorem cm_X4_would : ∀ i q, ca_X4_would i = some q → ab_moq i q := ab_lk_all (ab_all_c mo_X4_kept (ab_all_c mo_X4_blow (ab_all_c mo_X4_covered (ab_all_c mo_X4_bringBack (ab_all_n)))))
set_option maxRecDepth 100000 in
set_option maxHeartbeats 4000000 in
theorem sem_X4_would (base : Nat) : ab_Sem tbX4 lw_ts base cX4_would ca_X4_would 1 8 6 4808 (fun as => ab_en as 8) Tr_X4_would := by
  intro as h K hT V hV
  unfold Tr_X4_would at hT
  split at hT
  · rename_i a force right what
    obtain ⟨⟨⟨b0, b1, b2, b3, b4, b5⟩, th, sl, f0, f1, f2, f3, f4, f5⟩, hP, ⟨hb, hs⟩, hK⟩ := ab_so_el hT
    obtain ⟨g0, g1, g2, g3, g4, g5⟩ := id hb
    dsimp only [MV.thr, MV.sl, MV.fst9, MV.fat, MV.frt, MV.ftb, MV.fnm, MV.fmk] at g0 g1 g2 g3 g4 g5 hK hs
    subst g0
    have hm := md_el hP
    obtain ⟨c, c0, c1, c2, c3, c4, c5, -⟩ := id hm
    dsimp only [mdC, MV.thr, MV.sl, MV.fst9, MV.fat, MV.frt, MV.ftb, MV.fnm, MV.fmk] at c c0 c1 c2 c3 c4 c5
    show V 0 [some (.inr (.inl (some a))), some (.inl force), some (.inl right), some (.inl what), none, none, none, none] [] h 0 0
    have l20 : ∀ (h0 : AH) (q : Nat) (h2 : AH) (v2 : MV), ab_kp h h2 (mdL a (b0, b1, b2, b3, b4, b5)) → kpAt h2 q (mdL a (b0, b1, b2, b3, b4, b5)) (th, 0, f0, f1, f2, f3, f4, f5) → ab_md h2 a = some ((b0, b1, b2, b3, b4, b5), v2) → (bareV v2 ∧ v2.thr = th) → V 20 [some (.inr (.inl (some a))), some (.inl force), some (.inl right), some (.inl what), some (.inr (.inl (some q))), some (.inl 0), none, none] [.inl (if force = 0 then 0 else 1)] h2 5 4804 := by
      intro h0 q h2 v2 hkp hkq q1 q2
      obtain ⟨th1, sl1, p0, p1, p2, p3, p4, p5⟩ := v2
      obtain ⟨hb1, q4⟩ := q2
      obtain ⟨w0, w1, w2, w3, w4, w5⟩ := id hb1
      dsimp only [MV.thr, MV.sl, MV.fst9, MV.fat, MV.frt, MV.ftb, MV.fnm, MV.fmk] at w0 w1 w2 w3 w4 w5 q4
      subst w0
      subst q4
      obtain ⟨c', c0', c1', c2', c3', c4', c5', -⟩ := md_el q1
      dsimp only [mdC, MV.thr, MV.sl, MV.fst9, MV.fat, MV.frt, MV.ftb, MV.fnm, MV.fmk] at c' c4'
      have hcond : bareV (th1, 0, p0, p1, p2, p3, p4, p5) ∧ ∃ v0, bareV v0 ∧ kpAt h2 q (mdL a (b0, b1, b2, b3, b4, b5)) v0 := ⟨hb1, _, hb, hkq⟩
      have k0 : what = 0 → ∀ h3 v3, ab_md h3 a = some ((b0, b1, b2, b3, b4, b5), v3) → (bareV v3 ∧ v3.thr = th1) → ab_kp h2 h3 (mdL a (b0, b1, b2, b3, b4, b5)) → K (some (.inl 0)) h3 := fun z h3 v3 y1 y2 y3 => by
        have hk := hK h3 v3 y1 y2 (hkp.tr y3)
        rw [if_neg (by omega)] at hk; exact hk
      have k1 : what = 1 → ∀ h3 v3, ab_md h3 a = some ((b0, b1, b2, b3, b4, b5), v3) → (bareV v3 ∧ v3.thr = th1) → ab_kp h2 h3 (mdL a (b0, b1, b2, b3, b4, b5)) → K (some (.inl (if force = 0 then 0 else 1))) h3 := fun z h3 v3 y1 y2 y3 => by
        have hk := hK h3 v3 y1 y2 (hkp.tr y3)
        rw [if_pos z] at hk; exact hk
      have k2 : ¬ what = 1 → ∀ h3 v3, ab_md h3 a = some ((b0, b1, b2, b3, b4, b5), v3) → (bareV v3 ∧ v3.thr = th1) → ab_kp h2 h3 (mdL a (b0, b1, b2, b3, b4, b5)) → K (some (.inl 0)) h3 := fun z h3 v3 y1 y2 y3 => by
        have hk := hK h3 v3 y1 y2 (hkp.tr y3)
        rw [if_neg z] at hk; exact hk
      generalize (if force = 0 then (0 : Int) else 1) = rd at k1 ⊢
      refine hV (fun _ => false) 80 _ _ _ _ _ _ ?_
      simp only [c', c4', w5, q1, hb1, bI_in, bI_0, bI_1, bI_t, bI_f, bI_01, Tr_X4_covered, Tr_X4_bringBack, ae_aload, ae_aload_n, ae_getfield, ae_goto, ae_iaload, ae_iconst, ae_ifCond, ae_if_icmp, ae_iload, ae_iload_n, ae_invokevirtual, ae_ireturn, ae_istore, ae_isub, dX4_would_20, dX4_would_22, dX4_would_23, dX4_would_26, dX4_would_27, dX4_would_30, dX4_would_31, dX4_would_32, dX4_would_34, dX4_would_35, dX4_would_38, dX4_would_39, dX4_would_40, dX4_would_43, dX4_would_45, dX4_would_48, dX4_would_49, dX4_would_52, dX4_would_54, dX4_would_55, dX4_would_57, dX4_would_60, dX4_would_62, tbX4_g22, ca_X4_would_140, ca_X4_would_144, ca_X4_would_118, ca_X4_would_147, ab_wp0, ab_wps, ab_stp, ab_g, ab_st, ab_k2, ab_cl, ab_pop, ab_sz, ab_2, ab_ret, ab_f4, ab_tg, ab_I, ab_II, ab_A, ab_Rf, ab_VR, ab_IR, ab_VIR, ab_1, ab_LL, ab_DD, ab_ob, ab_pr, ab_qr, ab_ln, ab_so, ab_vI, ab_vA, ab_vD, ab_vL, ab_v2, ab_c, ab_fit, ab_rv, ab_tsw, ab_lsw, ab_up_eq, Fin.isValue, ab_f0, ab_f1, ab_f2, ab_f3, List.getElem?_cons_zero, List.getElem?_cons_succ, List.set_cons_zero, List.set_cons_succ, List.length_cons, List.length_nil, List.size_toArray, List.head?_cons, List.tail_cons, Option.map_some, cond_true, cond_false, true_and, and_true, false_and, and_false, not_true_eq_false, not_false_eq_true, true_imp_iff, false_imp_iff, if_true, if_false, ite_true, ite_false, ↓reduceIte, Nat.reduceAdd, Nat.reduceEqDiff, Nat.reduceLeDiff, Nat.reduceLT, Nat.reduceBEq, Nat.reduceBNe, Int.reduceAdd, Int.reduceNeg, Int.reduceSub, Int.reduceLE, Int.reduceLT, Int.reduceToNat, Int.reduceEq, Int.reduceMul, Int.cast_ofNat_Int, Nat.zero_add, Nat.add_zero, Nat.le_refl, eq_self, ne_eq, reduceCtorEq, or_true, true_or, or_false, false_or, Bool.or_true, Bool.or_false, Bool.true_or, Bool.false_or, Nat.zero_le, Int.le_refl, Int.ofNat_zero, Int.ofNat_one, Bool.false_eq_true]
      try simp only [ab_in]
      (repeat' (first | intro _ | refine And.intro ?_ ?_)) <;> (first | exact hcond.2 | exact k0 (by omega) _ _ (by assumption) (by assumption) (by assumption) | exact k1 (by omega) _ _ (by assumption) (by assumption) (by assumption) | exact k2 (by omega) _ _ (by assumption) (by assumption) (by assumption) | contradiction | omega | (exfalso; omega))
    have l4 : ∀ (h1 : AH) (q : Nat), kpAt h1 q (mdL a (b0, b1, b2, b3, b4, b5)) (th, 0, f0, f1, f2, f3, f4, f5) → h q = none → (∀ b, h b ≠ none → h1 b = h b) → V 4 [some (.inr (.inl (some a))), some (.inl force), some (.inl right), some (.inl what), none, none, none, none] [.inr (.inl (some q))] h1 5 4804 := by
      intro h1 q y1 y2 y3
      have hm1 := md_kp0 hm y3
      have hP1 := md_of hm1
      obtain ⟨c', c0', c1', c2', c3', c4', c5', -⟩ := id hm1
      dsimp only [mdC, MV.thr, MV.sl, MV.fst9, MV.fat, MV.frt, MV.ftb, MV.fnm, MV.fmk] at c' c4'
      have l20' : ∀ h2 v2, ab_md h2 a = some ((b0, b1, b2, b3, b4, b5), v2) → (bareV v2 ∧ v2.thr = th ∧ v2.fnm 0 = f4 0) → ab_fr h1 h2 (mdL a (b0, b1, b2, b3, b4, b5)) → V 20 [some (.inr (.inl (some a))), some (.inl force), some (.inl right), some (.inl what), some (.inr (.inl (some q))), some (.inl 0), none, none] [.inl (if force = 0 then 0 else 1)] h2 5 4804 := fun h2 v2 z1 z2 z3 =>
        l20 h1 q h2 v2 (ab_kp.tr (fun b hb _ => y3 b hb) (ab_kp.of_fr z3)) (y1.fr (ab_kp.of_fr z3) (fun b hb => hb)) z1 ⟨z2.1, z2.2.1⟩
      refine hV (fun p => p == 20) 80 _ _ _ _ _ _ ?_
      simp only [c', c4', g5, hP1, hb, bI_in, bI_0, bI_1, bI_t, bI_f, bI_01, Tr_X4_blow, ae_aload_n, ae_astore, ae_getfield, ae_iaload, ae_iconst, ae_iload_n, ae_invokevirtual, ae_istore, dX4_would_4, dX4_would_6, dX4_would_7, dX4_would_10, dX4_would_11, dX4_would_12, dX4_would_14, dX4_would_15, dX4_would_16, dX4_would_17, tbX4_g22, ca_X4_would_140, ca_X4_would_144, ca_X4_would_118, ca_X4_would_147, ab_wp0, ab_wps, ab_stp, ab_g, ab_st, ab_k2, ab_cl, ab_pop, ab_sz, ab_2, ab_ret, ab_f4, ab_tg, ab_I, ab_II, ab_A, ab_Rf, ab_VR, ab_IR, ab_VIR, ab_1, ab_LL, ab_DD, ab_ob, ab_pr, ab_qr, ab_ln, ab_so, ab_vI, ab_vA, ab_vD, ab_vL, ab_v2, ab_c, ab_fit, ab_rv, ab_tsw, ab_lsw, ab_up_eq, Fin.isValue, ab_f0, ab_f1, ab_f2, ab_f3, List.getElem?_cons_zero, List.getElem?_cons_succ, List.set_cons_zero, List.set_cons_succ, List.length_cons, List.length_nil, List.size_toArray, List.head?_cons, List.tail_cons, Option.map_some, cond_true, cond_false, true_and, and_true, false_and, and_false, not_true_eq_false, not_false_eq_true, true_imp_iff, false_imp_iff, if_true, if_false, ite_true, ite_false, ↓reduceIte, Nat.reduceAdd, Nat.reduceEqDiff, Nat.reduceLeDiff, Nat.reduceLT, Nat.reduceBEq, Nat.reduceBNe, Int.reduceAdd, Int.reduceNeg, Int.reduceSub, Int.reduceLE, Int.reduceLT, Int.reduceToNat, Int.reduceEq, Int.reduceMul, Int.cast_ofNat_Int, Nat.zero_add, Nat.add_zero, Nat.le_refl, eq_self, ne_eq, reduceCtorEq, or_true, true_or, or_false, false_or, Bool.or_true, Bool.or_false, Bool.true_or, Bool.false_or, Nat.zero_le, Int.le_refl, Int.ofNat_zero, Int.ofNat_one, Bool.false_eq_true]
      try simp only [ab_in]
      (repeat' (first | intro _ | refine And.intro ?_ ?_)) <;> (first | exact l20' _ _ (by assumption) (by assumption) (by assumption) | contradiction | omega | (exfalso; omega))
    refine hV (fun p => p == 4) 80 _ _ _ _ _ _ ?_
    simp only [c, hP, bI_in, bI_0, bI_1, bI_t, bI_f, bI_01, Tr_X4_kept, ae_aload_n, ae_invokevirtual, dX4_would_0, dX4_would_1, ca_X4_would_140, ca_X4_would_144, ca_X4_would_118, ca_X4_would_147, ab_wp0, ab_wps, ab_stp, ab_g, ab_st, ab_k2, ab_cl, ab_pop, ab_sz, ab_2, ab_ret, ab_f4, ab_tg, ab_I, ab_II, ab_A, ab_Rf, ab_VR, ab_IR, ab_VIR, ab_1, ab_LL, ab_DD, ab_ob, ab_pr, ab_qr, ab_ln, ab_so, ab_vI, ab_vA, ab_vD, ab_vL, ab_v2, ab_c, ab_fit, ab_rv, ab_tsw, ab_lsw, ab_up_eq, Fin.isValue, ab_f0, ab_f1, ab_f2, ab_f3, List.getElem?_cons_zero, List.getElem?_cons_succ, List.set_cons_zero, List.set_cons_succ, List.length_cons, List.length_nil, List.size_toArray, List.head?_cons, List.tail_cons, Option.map_some, cond_true, cond_false, true_and, and_true, false_and, and_false, not_true_eq_false, not_false_eq_true, true_imp_iff, false_imp_iff, if_true, if_false, ite_true, ite_false, ↓reduceIte, Nat.reduceAdd, Nat.reduceEqDiff, Nat.reduceLeDiff, Nat.reduceLT, Nat.reduceBEq, Nat.reduceBNe, Int.reduceAdd, Int.reduceNeg, Int.reduceSub, Int.reduceLE, Int.reduceLT, Int.reduceToNat, Int.reduceEq, Int.reduceMul, Int.cast_ofNat_Int, Nat.zero_add, Nat.add_zero, Nat.le_refl, eq_self, ne_eq, reduceCtorEq, or_true, true_or, or_false, false_or, Bool.or_true, Bool.or_false, Bool.true_or, Bool.false_or, Nat.zero_le, Int.le_refl, Int.ofNat_zero, Int.ofNat_one, Bool.false_eq_true]
    (repeat' (first | intro _ | refine And.intro ?_ ?_)) <;> (first | exact l4 _ _ (by assumption) (by assumption) (by assumption) | contradiction | omega | (exfalso; omega))
  · exact hT.elim
set_option maxRecDepth 100000 in
theorem con_X4_would (l : Launch) (D : va_G) (ty : Nat → ClassId) (base : Nat) : ab_Con l D vwCl ty lw_ts base lw_wd yX4_would cX4_would 8 (some .int) 6 131 6 4808 Tr_X4_would :=
  ab_con_of (own := RX4) (rt := 1) (tb := tbX4) (ini := false) (ca := ca_X4_would) (by decide +kernel) rfl (fun h => by cases h) rfl lw_wd_ok wtbX4 lw_ar cm_X4_would
    (fun p e R s m args below meth c K hcx => by
      obtain ⟨hx, hb, hml, hown, hF, rfl⟩ := hcx
      exact ab_lk_all (ab_all_c (ab_tc_V hx hb hml hown lw_wd_ok hF ⟨rfl, rfl⟩ (con_X4_kept l D ty base) rfl (lw_wi (by decide +kernel) (by decide +kernel)) (lw_wi (by decide +kernel) (by decide +kernel)) (lw_wi (by decide +kernel) (by decide +kernel)) (lw_wi (by decide +kernel) (by decide +kernel)) (lw_wi (by decide +kernel) (by decide +kernel)) (by decide +kernel) ⟨by decide, by decide⟩) (ab_all_c (ab_tc_V hx hb hml hown lw_wd_ok hF ⟨rfl, rfl⟩ (con_X4_blow l D ty base) rfl (lw_wi (by decide +kernel) (by decide +kernel)) (lw_wi (by decide +kernel) (by decide +kernel)) (lw_wi (by decide +kernel) (by decide +kernel)) (lw_wi (by decide +kernel) (by decide +kernel)) (lw_wi (by decide +kernel) (by decide +kernel)) (by decide +kernel) ⟨by decide, by decide⟩) (ab_all_c (ab_tc_V hx hb hml hown lw_wd_ok hF ⟨rfl, rfl⟩ (con_X4_covered l D ty base) rfl (lw_wi (by decide +kernel) (by decide +kernel)) (lw_wi (by decide +kernel) (by decide +kernel)) (lw_wi (by decide +kernel) (by decide +kernel)) (lw_wi (by decide +kernel) (by decide +kernel)) (lw_wi (by decide +kernel) (by decide +kernel)) (by decide +kernel) ⟨by decide, by decide⟩) (ab_all_c (ab_tc_V hx hb hml hown lw_wd_ok hF ⟨rfl, rfl⟩ (con_X4_bringBack l D ty base) rfl (lw_wi (by decide +kernel) (by decide +kernel)) (lw_wi (by decide +kernel) (by decide +kernel)) (lw_wi (by decide +kernel) (by decide +kernel)) (lw_wi (by decide +kernel) (by decide +kernel)) (lw_wi (by decide +kernel) (by decide +kernel)) (by decide +kernel) ⟨by decide, by decide⟩) (ab_all_n))))))
    (by intro as h K ht; unfold Tr_X4_would at ht; split at ht <;> first | exact ht.elim | exact Nat.le_of_ble_eq_true rfl) (sem_X4_would base)
theorem wV_r {row from9 x y acc : Int} (h : 0 ≤ acc ∧ acc ≤ 18) : 0 ≤ wV row from9 x y acc ∧ wV row from9 x y acc ≤ 18 := by
  have h2 := tdiv2_r h
  unfold wV
  split <;> omega
theorem wS_r (row from9 x : Int) : ∀ (n : Nat) (y acc : Int), 0 ≤ acc ∧ acc ≤ 18 → 0 ≤ wS row from9 x n y acc ∧ wS row from9 x n y acc ≤ 18 * n := by
  intro n
  induction n with
  | zero => intro y acc _; simp [wS]
  | succ n ih =>
    intro y acc h
    have h1 := wV_r (row := row) (from9 := from9) (x := x) (y := y) h
    have h2 := ih (y - 1) _ h1
    simp only [wS]
    omega
theorem wF_r (row from9 : Int) : 0 ≤ wF row from9 ∧ wF row from9 ≤ 1728 := by
  have h := sumR_r (f := fun x => wS row from9 x 8 7 0) (lo := 0) (hi := 144) (fun x => by have := wS_r row from9 x 8 7 0 (by omega); omega) 12 0
  unfold wF
  omega
noncomputable def Tr_X4_with : ATr := fun as h K => match as with
  | [.inr (.inl (some a)), .inl row, .inl from9] => ab_so (ab_md h a) fun P => (bareV P.2 ∧ ((0 ≤ row ∧ row < 8) ∧ 0 ≤ from9 ∧ from9 ≤ 8)) ∧ K (some (.inl (wF row from9))) h
  | _ => False
theorem mo_X4_with : ab_mo Tr_X4_with := by
  intro as h K K' hk ht
  unfold Tr_X4_with at ht ⊢
  split at ht
  · exact ab_so_mo (fun P q => ⟨q.1, hk _ _ q.2⟩) ht
  · exact ht.elim
def ca_X4_with : Nat → Option ACS := ab_lk [(36, (2, 0, 3, 0, 0, Tr_X4_isIn)), (109, (0, 4, 3, 0, 0, Tr_X4_isCovered))]
theorem ca_X4_with_36 : ca_X4_with 36 = some (2, 0, 3, 0, 0, Tr_X4_isIn) := rfl
theorem ca_X4_with_109 : ca_X4_with 109 = some (0, 4, 3, 0, 0, Tr_X4_isCovered) := rfl
theorem cm_X4_with : ∀ i q, ca_X4_with i = some q → ab_moq i q := ab_lk_all (ab_all_c mo_X4_isIn (ab_all_c mo_X4_isCovered (ab_all_n)))
set_option maxRecDepth 100000 in
set_option maxHeartbeats 4000000 in
theorem sem_X4_with (base : Nat) : ab_Sem tbX4 lw_ts base cX4_with ca_X4_with 1 8 0 0 (fun as => ab_en as 8) Tr_X4_with := by
  intro as h K hT V hV
  unfold Tr_X4_with at hT
  split at hT
  · rename_i a row from9
    obtain ⟨⟨⟨b0, b1, b2, b3, b4, b5⟩, th, sl, f0, f1, f2, f3, f4, f5⟩, hP, ⟨hb, hs⟩, hK⟩ := ab_so_el hT
    obtain ⟨g0, g1, g2, g3, g4, g5⟩ := id hb
    dsimp only [MV.thr, MV.sl, MV.fst9, MV.fat, MV.frt, MV.ftb, MV.fnm, MV.fmk] at g0 g1 g2 g3 g4 g5 hK hs
    subst g0
    have hm := md_el hP
    obtain ⟨c, c0, c1, c2, c3, c4, c5, -⟩ := id hm
    dsimp only [mdC, MV.thr, MV.sl, MV.fst9, MV.fat, MV.frt, MV.ftb, MV.fnm, MV.fmk] at c c0 c1 c2 c3 c4 c5
    show V 0 [some (.inr (.inl (some a))), some (.inl row), some (.inl from9), none, none, none, none, none] [] h 0 0
    have inner : ∀ (n : Nat) (x y acc s : Int) (u7 : Option AV), (0 ≤ x ∧ x < 12) → y + 1 = n → y ≤ 7 → (0 ≤ acc ∧ acc ≤ 18) → (0 ≤ s ∧ s ≤ 144 * x + 18 * (7 - y)) → (∀ u5 u6 u7, V 97 [some (.inr (.inl (some a))), some (.inl row), some (.inl from9), some (.inl (s + wS row from9 x n y acc)), some (.inl x), u5, u6, u7] [] h 0 0) → V 19 [some (.inr (.inl (some a))), some (.inl row), some (.inl from9), some (.inl (s)), some (.inl x), some (.inl acc), some (.inl y), u7] [] h 0 0 := by
      intro n
      induction n with
      | zero =>
        intro x y acc s u7 e0 e1 e2 e3 e4 hn
        simp only [wS, Int.add_zero] at hn
        have hn' := hn (some (.inl acc)) (some (.inl y)) u7
        refine hV (fun p => bif p == 97 then true else p == 24) 80 _ _ _ _ _ _ ?_
        simp only [ae_ifCond, ae_iload, dX4_with_19, dX4_with_21, ca_X4_with_36, ca_X4_with_109, ab_wp0, ab_wps, ab_stp, ab_g, ab_st, ab_k2, ab_cl, ab_pop, ab_sz, ab_2, ab_ret, ab_f4, ab_tg, ab_I, ab_II, ab_A, ab_Rf, ab_VR, ab_IR, ab_VIR, ab_1, ab_LL, ab_DD, ab_ob, ab_pr, ab_qr, ab_ln, ab_so, ab_vI, ab_vA, ab_vD, ab_vL, ab_v2, ab_c, ab_fit, ab_rv, ab_tsw, ab_lsw, ab_up_eq, Fin.isValue, ab_f0, ab_f1, ab_f2, ab_f3, List.getElem?_cons_zero, List.getElem?_cons_succ, List.set_cons_zero, List.set_cons_succ, List.length_cons, List.length_nil, List.size_toArray, List.head?_cons, List.tail_cons, Option.map_some, cond_true, cond_false, true_and, and_true, false_and, and_false, not_true_eq_false, not_false_eq_true, true_imp_iff, false_imp_iff, if_true, if_false, ite_true, ite_false, ↓reduceIte, Nat.reduceAdd, Nat.reduceEqDiff, Nat.reduceLeDiff, Nat.reduceLT, Nat.reduceBEq, Nat.reduceBNe, Int.reduceAdd, Int.reduceNeg, Int.reduceSub, Int.reduceLE, Int.reduceLT, Int.reduceToNat, Int.reduceEq, Int.reduceMul, Int.cast_ofNat_Int, Nat.zero_add, Nat.add_zero, Nat.le_refl, eq_self, ne_eq, reduceCtorEq, or_true, true_or, or_false, false_or, Bool.or_true, Bool.or_false, Bool.true_or, Bool.false_or, Nat.zero_le, Int.le_refl, Int.ofNat_zero, Int.ofNat_one, Bool.false_eq_true]
        simp only [ab_in]
        (repeat' (first | intro _ | refine And.intro ?_ ?_)) <;> (first | exact hn' | contradiction | omega | (exfalso; omega))
      | succ n ih =>
        intro x y acc s u7 e0 e1 e2 e3 e4 hn
        have hr := wV_r (row := row) (from9 := from9) (x := x) (y := y) e3
        have ht := tdiv2_r e3
        have ih' : ∀ u7, V 19 [some (.inr (.inl (some a))), some (.inl row), some (.inl from9), some (.inl (s + wV row from9 x y acc)), some (.inl x), some (.inl (wV row from9 x y acc)), some (.inl (y + -1)), u7] [] h 0 0 := fun u7 => ih x (y + -1) (wV row from9 x y acc) (s + wV row from9 x y acc) u7 e0 (by omega) (by omega) hr (by omega) (fun u5 u6 u7 => by
          have := hn u5 u6 u7
          simp only [wS] at this
          rw [Int.add_assoc]
          exact this)
        have l24 : V 24 [some (.inr (.inl (some a))), some (.inl row), some (.inl from9), some (.inl (s)), some (.inl x), some (.inl acc), some (.inl y), u7] [] h 0 0 := by
          by_cases hA : y = row
          · cases hI : decide (from9 ≤ x ∧ x ≤ from9 + 3)
            · have hI2 := of_decide_eq_false hI
              have hv : wV row from9 x y acc = 9 + Int.tdiv acc 2 := by
                unfold wV
                rw [if_neg (by omega)]
              rw [hv] at ih'
              refine hV (fun p => p == 19) 80 _ _ _ _ _ _ ?_
              simp only [hI, c, hP, hb, bI_in, bI_0, bI_1, bI_t, bI_f, bI_01, Tr_X4_isIn, Tr_X4_isCovered, ae_aload_n, ae_bipush, ae_goto, ae_iadd, ae_iconst, ae_idiv, ae_ifCond, ae_if_icmp, ae_iinc, ae_iload, ae_iload_n, ae_invokestatic, ae_invokevirtual, ae_istore, ae_istore_n, dX4_with_24, dX4_with_26, dX4_with_27, dX4_with_30, dX4_with_32, dX4_with_33, dX4_with_34, dX4_with_35, dX4_with_38, dX4_with_40, dX4_with_41, dX4_with_42, dX4_with_43, dX4_with_44, dX4_with_47, dX4_with_50, dX4_with_51, dX4_with_54, dX4_with_55, dX4_with_57, dX4_with_59, dX4_with_62, dX4_with_63, dX4_with_65, dX4_with_67, dX4_with_70, dX4_with_73, dX4_with_74, dX4_with_77, dX4_with_79, dX4_with_81, dX4_with_82, dX4_with_83, dX4_with_84, dX4_with_86, dX4_with_87, dX4_with_89, dX4_with_90, dX4_with_91, dX4_with_94, ca_X4_with_36, ca_X4_with_109, ab_wp0, ab_wps, ab_stp, ab_g, ab_st, ab_k2, ab_cl, ab_pop, ab_sz, ab_2, ab_ret, ab_f4, ab_tg, ab_I, ab_II, ab_A, ab_Rf, ab_VR, ab_IR, ab_VIR, ab_1, ab_LL, ab_DD, ab_ob, ab_pr, ab_qr, ab_ln, ab_so, ab_vI, ab_vA, ab_vD, ab_vL, ab_v2, ab_c, ab_fit, ab_rv, ab_tsw, ab_lsw, ab_up_eq, Fin.isValue, ab_f0, ab_f1, ab_f2, ab_f3, List.getElem?_cons_zero, List.getElem?_cons_succ, List.set_cons_zero, List.set_cons_succ, List.length_cons, List.length_nil, List.size_toArray, List.head?_cons, List.tail_cons, Option.map_some, cond_true, cond_false, true_and, and_true, false_and, and_false, not_true_eq_false, not_false_eq_true, true_imp_iff, false_imp_iff, if_true, if_false, ite_true, ite_false, ↓reduceIte, Nat.reduceAdd, Nat.reduceEqDiff, Nat.reduceLeDiff, Nat.reduceLT, Nat.reduceBEq, Nat.reduceBNe, Int.reduceAdd, Int.reduceNeg, Int.reduceSub, Int.reduceLE, Int.reduceLT, Int.reduceToNat, Int.reduceEq, Int.reduceMul, Int.cast_ofNat_Int, Nat.zero_add, Nat.add_zero, Nat.le_refl, eq_self, ne_eq, reduceCtorEq, or_true, true_or, or_false, false_or, Bool.or_true, Bool.or_false, Bool.true_or, Bool.false_or, Nat.zero_le, Int.le_refl, Int.ofNat_zero, Int.ofNat_one, Bool.false_eq_true]
              simp only [ab_in]
              (repeat' (first | intro _ | refine And.intro ?_ ?_)) <;> (first | exact ih' _ | contradiction | omega | (exfalso; omega))
            · have hI2 := of_decide_eq_true hI
              have hv : wV row from9 x y acc = 0 := by
                unfold wV
                rw [if_pos (by omega)]
              rw [hv] at ih'
              refine hV (fun p => p == 19) 80 _ _ _ _ _ _ ?_
              simp only [hI, c, hP, hb, bI_in, bI_0, bI_1, bI_t, bI_f, bI_01, Tr_X4_isIn, Tr_X4_isCovered, ae_aload_n, ae_bipush, ae_goto, ae_iadd, ae_iconst, ae_idiv, ae_ifCond, ae_if_icmp, ae_iinc, ae_iload, ae_iload_n, ae_invokestatic, ae_invokevirtual, ae_istore, ae_istore_n, dX4_with_24, dX4_with_26, dX4_with_27, dX4_with_30, dX4_with_32, dX4_with_33, dX4_with_34, dX4_with_35, dX4_with_38, dX4_with_40, dX4_with_41, dX4_with_42, dX4_with_43, dX4_with_44, dX4_with_47, dX4_with_50, dX4_with_51, dX4_with_54, dX4_with_55, dX4_with_57, dX4_with_59, dX4_with_62, dX4_with_63, dX4_with_65, dX4_with_67, dX4_with_70, dX4_with_73, dX4_with_74, dX4_with_77, dX4_with_79, dX4_with_81, dX4_with_82, dX4_with_83, dX4_with_84, dX4_with_86, dX4_with_87, dX4_with_89, dX4_with_90, dX4_with_91, dX4_with_94, ca_X4_with_36, ca_X4_with_109, ab_wp0, ab_wps, ab_stp, ab_g, ab_st, ab_k2, ab_cl, ab_pop, ab_sz, ab_2, ab_ret, ab_f4, ab_tg, ab_I, ab_II, ab_A, ab_Rf, ab_VR, ab_IR, ab_VIR, ab_1, ab_LL, ab_DD, ab_ob, ab_pr, ab_qr, ab_ln, ab_so, ab_vI, ab_vA, ab_vD, ab_vL, ab_v2, ab_c, ab_fit, ab_rv, ab_tsw, ab_lsw, ab_up_eq, Fin.isValue, ab_f0, ab_f1, ab_f2, ab_f3, List.getElem?_cons_zero, List.getElem?_cons_succ, List.set_cons_zero, List.set_cons_succ, List.length_cons, List.length_nil, List.size_toArray, List.head?_cons, List.tail_cons, Option.map_some, cond_true, cond_false, true_and, and_true, false_and, and_false, not_true_eq_false, not_false_eq_true, true_imp_iff, false_imp_iff, if_true, if_false, ite_true, ite_false, ↓reduceIte, Nat.reduceAdd, Nat.reduceEqDiff, Nat.reduceLeDiff, Nat.reduceLT, Nat.reduceBEq, Nat.reduceBNe, Int.reduceAdd, Int.reduceNeg, Int.reduceSub, Int.reduceLE, Int.reduceLT, Int.reduceToNat, Int.reduceEq, Int.reduceMul, Int.cast_ofNat_Int, Nat.zero_add, Nat.add_zero, Nat.le_refl, eq_self, ne_eq, reduceCtorEq, or_true, true_or, or_false, false_or, Bool.or_true, Bool.or_false, Bool.true_or, Bool.false_or, Nat.zero_le, Int.le_refl, Int.ofNat_zero, Int.ofNat_one, Bool.false_eq_true]
              simp only [ab_in]
              (repeat' (first | intro _ | refine And.intro ?_ ?_)) <;> (first | exact ih' _ | contradiction | omega | (exfalso; omega))
          · by_cases hB : y + 1 = row
            · cases hI : decide (from9 ≤ x ∧ x ≤ from9 + 3)
              · have hI2 := of_decide_eq_false hI
                have hv : wV row from9 x y acc = 9 + Int.tdiv acc 2 := by
                  unfold wV
                  rw [if_neg (by omega)]
                rw [hv] at ih'
                refine hV (fun p => p == 19) 80 _ _ _ _ _ _ ?_
                simp only [hI, c, hP, hb, bI_in, bI_0, bI_1, bI_t, bI_f, bI_01, Tr_X4_isIn, Tr_X4_isCovered, ae_aload_n, ae_bipush, ae_goto, ae_iadd, ae_iconst, ae_idiv, ae_ifCond, ae_if_icmp, ae_iinc, ae_iload, ae_iload_n, ae_invokestatic, ae_invokevirtual, ae_istore, ae_istore_n, dX4_with_24, dX4_with_26, dX4_with_27, dX4_with_30, dX4_with_32, dX4_with_33, dX4_with_34, dX4_with_35, dX4_with_38, dX4_with_40, dX4_with_41, dX4_with_42, dX4_with_43, dX4_with_44, dX4_with_47, dX4_with_50, dX4_with_51, dX4_with_54, dX4_with_55, dX4_with_57, dX4_with_59, dX4_with_62, dX4_with_63, dX4_with_65, dX4_with_67, dX4_with_70, dX4_with_73, dX4_with_74, dX4_with_77, dX4_with_79, dX4_with_81, dX4_with_82, dX4_with_83, dX4_with_84, dX4_with_86, dX4_with_87, dX4_with_89, dX4_with_90, dX4_with_91, dX4_with_94, ca_X4_with_36, ca_X4_with_109, ab_wp0, ab_wps, ab_stp, ab_g, ab_st, ab_k2, ab_cl, ab_pop, ab_sz, ab_2, ab_ret, ab_f4, ab_tg, ab_I, ab_II, ab_A, ab_Rf, ab_VR, ab_IR, ab_VIR, ab_1, ab_LL, ab_DD, ab_ob, ab_pr, ab_qr, ab_ln, ab_so, ab_vI, ab_vA, ab_vD, ab_vL, ab_v2, ab_c, ab_fit, ab_rv, ab_tsw, ab_lsw, ab_up_eq, Fin.isValue, ab_f0, ab_f1, ab_f2, ab_f3, List.getElem?_cons_zero, List.getElem?_cons_succ, List.set_cons_zero, List.set_cons_succ, List.length_cons, List.length_nil, List.size_toArray, List.head?_cons, List.tail_cons, Option.map_some, cond_true, cond_false, true_and, and_true, false_and, and_false, not_true_eq_false, not_false_eq_true, true_imp_iff, false_imp_iff, if_true, if_false, ite_true, ite_false, ↓reduceIte, Nat.reduceAdd, Nat.reduceEqDiff, Nat.reduceLeDiff, Nat.reduceLT, Nat.reduceBEq, Nat.reduceBNe, Int.reduceAdd, Int.reduceNeg, Int.reduceSub, Int.reduceLE, Int.reduceLT, Int.reduceToNat, Int.reduceEq, Int.reduceMul, Int.cast_ofNat_Int, Nat.zero_add, Nat.add_zero, Nat.le_refl, eq_self, ne_eq, reduceCtorEq, or_true, true_or, or_false, false_or, Bool.or_true, Bool.or_false, Bool.true_or, Bool.false_or, Nat.zero_le, Int.le_refl, Int.ofNat_zero, Int.ofNat_one, Bool.false_eq_true]
                simp only [ab_in]
                (repeat' (first | intro _ | refine And.intro ?_ ?_)) <;> (first | exact ih' _ | contradiction | omega | (exfalso; omega))
              · have hI2 := of_decide_eq_true hI
                have hv : wV row from9 x y acc = 0 := by
                  unfold wV
                  rw [if_pos (by omega)]
                rw [hv] at ih'
                refine hV (fun p => p == 19) 80 _ _ _ _ _ _ ?_
                simp only [hI, c, hP, hb, bI_in, bI_0, bI_1, bI_t, bI_f, bI_01, Tr_X4_isIn, Tr_X4_isCovered, ae_aload_n, ae_bipush, ae_goto, ae_iadd, ae_iconst, ae_idiv, ae_ifCond, ae_if_icmp, ae_iinc, ae_iload, ae_iload_n, ae_invokestatic, ae_invokevirtual, ae_istore, ae_istore_n, dX4_with_24, dX4_with_26, dX4_with_27, dX4_with_30, dX4_with_32, dX4_with_33, dX4_with_34, dX4_with_35, dX4_with_38, dX4_with_40, dX4_with_41, dX4_with_42, dX4_with_43, dX4_with_44, dX4_with_47, dX4_with_50, dX4_with_51, dX4_with_54, dX4_with_55, dX4_with_57, dX4_with_59, dX4_with_62, dX4_with_63, dX4_with_65, dX4_with_67, dX4_with_70, dX4_with_73, dX4_with_74, dX4_with_77, dX4_with_79, dX4_with_81, dX4_with_82, dX4_with_83, dX4_with_84, dX4_with_86, dX4_with_87, dX4_with_89, dX4_with_90, dX4_with_91, dX4_with_94, ca_X4_with_36, ca_X4_with_109, ab_wp0, ab_wps, ab_stp, ab_g, ab_st, ab_k2, ab_cl, ab_pop, ab_sz, ab_2, ab_ret, ab_f4, ab_tg, ab_I, ab_II, ab_A, ab_Rf, ab_VR, ab_IR, ab_VIR, ab_1, ab_LL, ab_DD, ab_ob, ab_pr, ab_qr, ab_ln, ab_so, ab_vI, ab_vA, ab_vD, ab_vL, ab_v2, ab_c, ab_fit, ab_rv, ab_tsw, ab_lsw, ab_up_eq, Fin.isValue, ab_f0, ab_f1, ab_f2, ab_f3, List.getElem?_cons_zero, List.getElem?_cons_succ, List.set_cons_zero, List.set_cons_succ, List.length_cons, List.length_nil, List.size_toArray, List.head?_cons, List.tail_cons, Option.map_some, cond_true, cond_false, true_and, and_true, false_and, and_false, not_true_eq_false, not_false_eq_true, true_imp_iff, false_imp_iff, if_true, if_false, ite_true, ite_false, ↓reduceIte, Nat.reduceAdd, Nat.reduceEqDiff, Nat.reduceLeDiff, Nat.reduceLT, Nat.reduceBEq, Nat.reduceBNe, Int.reduceAdd, Int.reduceNeg, Int.reduceSub, Int.reduceLE, Int.reduceLT, Int.reduceToNat, Int.reduceEq, Int.reduceMul, Int.cast_ofNat_Int, Nat.zero_add, Nat.add_zero, Nat.le_refl, eq_self, ne_eq, reduceCtorEq, or_true, true_or, or_false, false_or, Bool.or_true, Bool.or_false, Bool.true_or, Bool.false_or, Nat.zero_le, Int.le_refl, Int.ofNat_zero, Int.ofNat_one, Bool.false_eq_true]
                simp only [ab_in]
                (repeat' (first | intro _ | refine And.intro ?_ ?_)) <;> (first | exact ih' _ | contradiction | omega | (exfalso; omega))
            · have hv : wV row from9 x y acc = 9 + Int.tdiv acc 2 := by
                unfold wV
                rw [if_neg (by omega)]
              rw [hv] at ih'
              refine hV (fun p => p == 19) 80 _ _ _ _ _ _ ?_
              simp only [c, hP, hb, bI_in, bI_0, bI_1, bI_t, bI_f, bI_01, Tr_X4_isIn, Tr_X4_isCovered, ae_aload_n, ae_bipush, ae_goto, ae_iadd, ae_iconst, ae_idiv, ae_ifCond, ae_if_icmp, ae_iinc, ae_iload, ae_iload_n, ae_invokestatic, ae_invokevirtual, ae_istore, ae_istore_n, dX4_with_24, dX4_with_26, dX4_with_27, dX4_with_30, dX4_with_32, dX4_with_33, dX4_with_34, dX4_with_35, dX4_with_38, dX4_with_40, dX4_with_41, dX4_with_42, dX4_with_43, dX4_with_44, dX4_with_47, dX4_with_50, dX4_with_51, dX4_with_54, dX4_with_55, dX4_with_57, dX4_with_59, dX4_with_62, dX4_with_63, dX4_with_65, dX4_with_67, dX4_with_70, dX4_with_73, dX4_with_74, dX4_with_77, dX4_with_79, dX4_with_81, dX4_with_82, dX4_with_83, dX4_with_84, dX4_with_86, dX4_with_87, dX4_with_89, dX4_with_90, dX4_with_91, dX4_with_94, ca_X4_with_36, ca_X4_with_109, ab_wp0, ab_wps, ab_stp, ab_g, ab_st, ab_k2, ab_cl, ab_pop, ab_sz, ab_2, ab_ret, ab_f4, ab_tg, ab_I, ab_II, ab_A, ab_Rf, ab_VR, ab_IR, ab_VIR, ab_1, ab_LL, ab_DD, ab_ob, ab_pr, ab_qr, ab_ln, ab_so, ab_vI, ab_vA, ab_vD, ab_vL, ab_v2, ab_c, ab_fit, ab_rv, ab_tsw, ab_lsw, ab_up_eq, Fin.isValue, ab_f0, ab_f1, ab_f2, ab_f3, List.getElem?_cons_zero, List.getElem?_cons_succ, List.set_cons_zero, List.set_cons_succ, List.length_cons, List.length_nil, List.size_toArray, List.head?_cons, List.tail_cons, Option.map_some, cond_true, cond_false, true_and, and_true, false_and, and_false, not_true_eq_false, not_false_eq_true, true_imp_iff, false_imp_iff, if_true, if_false, ite_true, ite_false, ↓reduceIte, Nat.reduceAdd, Nat.reduceEqDiff, Nat.reduceLeDiff, Nat.reduceLT, Nat.reduceBEq, Nat.reduceBNe, Int.reduceAdd, Int.reduceNeg, Int.reduceSub, Int.reduceLE, Int.reduceLT, Int.reduceToNat, Int.reduceEq, Int.reduceMul, Int.cast_ofNat_Int, Nat.zero_add, Nat.add_zero, Nat.le_refl, eq_self, ne_eq, reduceCtorEq, or_true, true_or, or_false, false_or, Bool.or_true, Bool.or_false, Bool.true_or, Bool.false_or, Nat.zero_le, Int.le_refl, Int.ofNat_zero, Int.ofNat_one, Bool.false_eq_true]
              simp only [ab_in]
              (repeat' (first | intro _ | refine And.intro ?_ ?_)) <;> (first | exact ih' _ | contradiction | omega | (exfalso; omega))
        refine hV (fun p => bif p == 97 then true else p == 24) 80 _ _ _ _ _ _ ?_
        simp only [ae_ifCond, ae_iload, dX4_with_19, dX4_with_21, ca_X4_with_36, ca_X4_with_109, ab_wp0, ab_wps, ab_stp, ab_g, ab_st, ab_k2, ab_cl, ab_pop, ab_sz, ab_2, ab_ret, ab_f4, ab_tg, ab_I, ab_II, ab_A, ab_Rf, ab_VR, ab_IR, ab_VIR, ab_1, ab_LL, ab_DD, ab_ob, ab_pr, ab_qr, ab_ln, ab_so, ab_vI, ab_vA, ab_vD, ab_vL, ab_v2, ab_c, ab_fit, ab_rv, ab_tsw, ab_lsw, ab_up_eq, Fin.isValue, ab_f0, ab_f1, ab_f2, ab_f3, List.getElem?_cons_zero, List.getElem?_cons_succ, List.set_cons_zero, List.set_cons_succ, List.length_cons, List.length_nil, List.size_toArray, List.head?_cons, List.tail_cons, Option.map_some, cond_true, cond_false, true_and, and_true, false_and, and_false, not_true_eq_false, not_false_eq_true, true_imp_iff, false_imp_iff, if_true, if_false, ite_true, ite_false, ↓reduceIte, Nat.reduceAdd, Nat.reduceEqDiff, Nat.reduceLeDiff, Nat.reduceLT, Nat.reduceBEq, Nat.reduceBNe, Int.reduceAdd, Int.reduceNeg, Int.reduceSub, Int.reduceLE, Int.reduceLT, Int.reduceToNat, Int.reduceEq, Int.reduceMul, Int.cast_ofNat_Int, Nat.zero_add, Nat.add_zero, Nat.le_refl, eq_self, ne_eq, reduceCtorEq, or_true, true_or, or_false, false_or, Bool.or_true, Bool.or_false, Bool.true_or, Bool.false_or, Nat.zero_le, Int.le_refl, Int.ofNat_zero, Int.ofNat_one, Bool.false_eq_true]
        simp only [ab_in]
        (repeat' (first | intro _ | refine And.intro ?_ ?_)) <;> (first | exact l24 | contradiction | omega | (exfalso; omega))
    have outer : ∀ (n : Nat) (x s : Int) (u5 u6 u7 : Option AV), x + n = 12 → 0 ≤ x → (0 ≤ s ∧ s ≤ 144 * x) → K (some (.inl (s + sumR (fun x => wS row from9 x 8 7 0) n x))) h → V 5 [some (.inr (.inl (some a))), some (.inl row), some (.inl from9), some (.inl (s)), some (.inl x), u5, u6, u7] [] h 0 0 := by
      intro n
      induction n with
      | zero =>
        intro x s u5 u6 u7 e1 e2 e3 hK
        simp only [sumR, Int.add_zero] at hK
        refine hV (fun p => p == 12) 80 _ _ _ _ _ _ ?_
        simp only [ae_bipush, ae_if_icmp, ae_iload, dX4_with_5, dX4_with_7, dX4_with_9, ca_X4_with_36, ca_X4_with_109, ab_wp0, ab_wps, ab_stp, ab_g, ab_st, ab_k2, ab_cl, ab_pop, ab_sz, ab_2, ab_ret, ab_f4, ab_tg, ab_I, ab_II, ab_A, ab_Rf, ab_VR, ab_IR, ab_VIR, ab_1, ab_LL, ab_DD, ab_ob, ab_pr, ab_qr, ab_ln, ab_so, ab_vI, ab_vA, ab_vD, ab_vL, ab_v2, ab_c, ab_fit, ab_rv, ab_tsw, ab_lsw, ab_up_eq, Fin.isValue, ab_f0, ab_f1, ab_f2, ab_f3, List.getElem?_cons_zero, List.getElem?_cons_succ, List.set_cons_zero, List.set_cons_succ, List.length_cons, List.length_nil, List.size_toArray, List.head?_cons, List.tail_cons, Option.map_some, cond_true, cond_false, true_and, and_true, false_and, and_false, not_true_eq_false, not_false_eq_true, true_imp_iff, false_imp_iff, if_true, if_false, ite_true, ite_false, ↓reduceIte, Nat.reduceAdd, Nat.reduceEqDiff, Nat.reduceLeDiff, Nat.reduceLT, Nat.reduceBEq, Nat.reduceBNe, Int.reduceAdd, Int.reduceNeg, Int.reduceSub, Int.reduceLE, Int.reduceLT, Int.reduceToNat, Int.reduceEq, Int.reduceMul, Int.cast_ofNat_Int, Nat.zero_add, Nat.add_zero, Nat.le_refl, eq_self, ne_eq, reduceCtorEq, or_true, true_or, or_false, false_or, Bool.or_true, Bool.or_false, Bool.true_or, Bool.false_or, Nat.zero_le, Int.le_refl, Int.ofNat_zero, Int.ofNat_one, Bool.false_eq_true, ae_iload_n, ae_ireturn, dX4_with_103, dX4_with_104, ca_X4_with_36, ca_X4_with_109, ab_wp0, ab_wps, ab_stp, ab_g, ab_st, ab_k2, ab_cl, ab_pop, ab_sz, ab_2, ab_ret, ab_f4, ab_tg, ab_I, ab_II, ab_A, ab_Rf, ab_VR, ab_IR, ab_VIR, ab_1, ab_LL, ab_DD, ab_ob, ab_pr, ab_qr, ab_ln, ab_so, ab_vI, ab_vA, ab_vD, ab_vL, ab_v2, ab_c, ab_fit, ab_rv, ab_tsw, ab_lsw, ab_up_eq, Fin.isValue, ab_f0, ab_f1, ab_f2, ab_f3, List.getElem?_cons_zero, List.getElem?_cons_succ, List.set_cons_zero, List.set_cons_succ, List.length_cons, List.length_nil, List.size_toArray, List.head?_cons, List.tail_cons, Option.map_some, cond_true, cond_false, true_and, and_true, false_and, and_false, not_true_eq_false, not_false_eq_true, true_imp_iff, false_imp_iff, if_true, if_false, ite_true, ite_false, ↓reduceIte, Nat.reduceAdd, Nat.reduceEqDiff, Nat.reduceLeDiff, Nat.reduceLT, Nat.reduceBEq, Nat.reduceBNe, Int.reduceAdd, Int.reduceNeg, Int.reduceSub, Int.reduceLE, Int.reduceLT, Int.reduceToNat, Int.reduceEq, Int.reduceMul, Int.cast_ofNat_Int, Nat.zero_add, Nat.add_zero, Nat.le_refl, eq_self, ne_eq, reduceCtorEq, or_true, true_or, or_false, false_or, Bool.or_true, Bool.or_false, Bool.true_or, Bool.false_or, Nat.zero_le, Int.le_refl, Int.ofNat_zero, Int.ofNat_one, Bool.false_eq_true]
        simp only [ab_in]
        (repeat' (first | intro _ | refine And.intro ?_ ?_)) <;> (first | exact hK | contradiction | omega | (exfalso; omega))
      | succ n ih =>
        intro x s u5 u6 u7 e1 e2 e3 hK
        have hr := wS_r row from9 x 8 7 0 (by omega)
        have ih' : ∀ u5 u6 u7, V 5 [some (.inr (.inl (some a))), some (.inl row), some (.inl from9), some (.inl (s + wS row from9 x 8 7 0)), some (.inl (x + 1)), u5, u6, u7] [] h 0 0 := fun u5 u6 u7 => ih (x + 1) (s + wS row from9 x 8 7 0) u5 u6 u7 (by omega) (by omega) (by omega) (by rw [Int.add_assoc]; exact hK)
        have l97 : ∀ u5 u6 u7, V 97 [some (.inr (.inl (some a))), some (.inl row), some (.inl from9), some (.inl (s + wS row from9 x 8 7 0)), some (.inl x), u5, u6, u7] [] h 0 0 := by
          intro u5 u6 u7
          have ih2 := ih' u5 u6 u7
          refine hV (fun p => p == 5) 80 _ _ _ _ _ _ ?_
          simp only [ae_goto, ae_iinc, dX4_with_97, dX4_with_100, ca_X4_with_36, ca_X4_with_109, ab_wp0, ab_wps, ab_stp, ab_g, ab_st, ab_k2, ab_cl, ab_pop, ab_sz, ab_2, ab_ret, ab_f4, ab_tg, ab_I, ab_II, ab_A, ab_Rf, ab_VR, ab_IR, ab_VIR, ab_1, ab_LL, ab_DD, ab_ob, ab_pr, ab_qr, ab_ln, ab_so, ab_vI, ab_vA, ab_vD, ab_vL, ab_v2, ab_c, ab_fit, ab_rv, ab_tsw, ab_lsw, ab_up_eq, Fin.isValue, ab_f0, ab_f1, ab_f2, ab_f3, List.getElem?_cons_zero, List.getElem?_cons_succ, List.set_cons_zero, List.set_cons_succ, List.length_cons, List.length_nil, List.size_toArray, List.head?_cons, List.tail_cons, Option.map_some, cond_true, cond_false, true_and, and_true, false_and, and_false, not_true_eq_false, not_false_eq_true, true_imp_iff, false_imp_iff, if_true, if_false, ite_true, ite_false, ↓reduceIte, Nat.reduceAdd, Nat.reduceEqDiff, Nat.reduceLeDiff, Nat.reduceLT, Nat.reduceBEq, Nat.reduceBNe, Int.reduceAdd, Int.reduceNeg, Int.reduceSub, Int.reduceLE, Int.reduceLT, Int.reduceToNat, Int.reduceEq, Int.reduceMul, Int.cast_ofNat_Int, Nat.zero_add, Nat.add_zero, Nat.le_refl, eq_self, ne_eq, reduceCtorEq, or_true, true_or, or_false, false_or, Bool.or_true, Bool.or_false, Bool.true_or, Bool.false_or, Nat.zero_le, Int.le_refl, Int.ofNat_zero, Int.ofNat_one, Bool.false_eq_true]
          exact ih2
        have l19 := inner 8 x 7 0 s u7 (by omega) (by omega) (by omega) (by omega) (by omega) l97
        refine hV (fun p => bif p == 19 then true else p == 103) 80 _ _ _ _ _ _ ?_
        simp only [ae_bipush, ae_iconst, ae_if_icmp, ae_iload, ae_istore, dX4_with_5, dX4_with_7, dX4_with_9, dX4_with_12, dX4_with_13, dX4_with_15, dX4_with_17, ca_X4_with_36, ca_X4_with_109, ab_wp0, ab_wps, ab_stp, ab_g, ab_st, ab_k2, ab_cl, ab_pop, ab_sz, ab_2, ab_ret, ab_f4, ab_tg, ab_I, ab_II, ab_A, ab_Rf, ab_VR, ab_IR, ab_VIR, ab_1, ab_LL, ab_DD, ab_ob, ab_pr, ab_qr, ab_ln, ab_so, ab_vI, ab_vA, ab_vD, ab_vL, ab_v2, ab_c, ab_fit, ab_rv, ab_tsw, ab_lsw, ab_up_eq, Fin.isValue, ab_f0, ab_f1, ab_f2, ab_f3, List.getElem?_cons_zero, List.getElem?_cons_succ, List.set_cons_zero, List.set_cons_succ, List.length_cons, List.length_nil, List.size_toArray, List.head?_cons, List.tail_cons, Option.map_some, cond_true, cond_false, true_and, and_true, false_and, and_false, not_true_eq_false, not_false_eq_true, true_imp_iff, false_imp_iff, if_true, if_false, ite_true, ite_false, ↓reduceIte, Nat.reduceAdd, Nat.reduceEqDiff, Nat.reduceLeDiff, Nat.reduceLT, Nat.reduceBEq, Nat.reduceBNe, Int.reduceAdd, Int.reduceNeg, Int.reduceSub, Int.reduceLE, Int.reduceLT, Int.reduceToNat, Int.reduceEq, Int.reduceMul, Int.cast_ofNat_Int, Nat.zero_add, Nat.add_zero, Nat.le_refl, eq_self, ne_eq, reduceCtorEq, or_true, true_or, or_false, false_or, Bool.or_true, Bool.or_false, Bool.true_or, Bool.false_or, Nat.zero_le, Int.le_refl, Int.ofNat_zero, Int.ofNat_one, Bool.false_eq_true]
        simp only [ab_in]
        (repeat' (first | intro _ | refine And.intro ?_ ?_)) <;> (first | exact l19 | contradiction | omega | (exfalso; omega))
    have l0 := outer 12 0 0 none none none (by omega) (by omega) (by omega) (by rw [Int.zero_add]; exact hK)
    refine hV (fun p => p == 5) 80 _ _ _ _ _ _ ?_
    simp only [ae_iconst, ae_istore, ae_istore_n, dX4_with_0, dX4_with_1, dX4_with_2, dX4_with_3, ca_X4_with_36, ca_X4_with_109, ab_wp0, ab_wps, ab_stp, ab_g, ab_st, ab_k2, ab_cl, ab_pop, ab_sz, ab_2, ab_ret, ab_f4, ab_tg, ab_I, ab_II, ab_A, ab_Rf, ab_VR, ab_IR, ab_VIR, ab_1, ab_LL, ab_DD, ab_ob, ab_pr, ab_qr, ab_ln, ab_so, ab_vI, ab_vA, ab_vD, ab_vL, ab_v2, ab_c, ab_fit, ab_rv, ab_tsw, ab_lsw, ab_up_eq, Fin.isValue, ab_f0, ab_f1, ab_f2, ab_f3, List.getElem?_cons_zero, List.getElem?_cons_succ, List.set_cons_zero, List.set_cons_succ, List.length_cons, List.length_nil, List.size_toArray, List.head?_cons, List.tail_cons, Option.map_some, cond_true, cond_false, true_and, and_true, false_and, and_false, not_true_eq_false, not_false_eq_true, true_imp_iff, false_imp_iff, if_true, if_false, ite_true, ite_false, ↓reduceIte, Nat.reduceAdd, Nat.reduceEqDiff, Nat.reduceLeDiff, Nat.reduceLT, Nat.reduceBEq, Nat.reduceBNe, Int.reduceAdd, Int.reduceNeg, Int.reduceSub, Int.reduceLE, Int.reduceLT, Int.reduceToNat, Int.reduceEq, Int.reduceMul, Int.cast_ofNat_Int, Nat.zero_add, Nat.add_zero, Nat.le_refl, eq_self, ne_eq, reduceCtorEq, or_true, true_or, or_false, false_or, Bool.or_true, Bool.or_false, Bool.true_or, Bool.false_or, Nat.zero_le, Int.le_refl, Int.ofNat_zero, Int.ofNat_one, Bool.false_eq_true]
    exact l0
  · exact hT.elim
set_option maxRecDepth 100000 in
theorem con_X4_with (l : Launch) (D : va_G) (ty : Nat → ClassId) (base : Nat) : ab_Con l D vwCl ty lw_ts base lw_wd yX4_with cX4_with 8 (some .int) 5 109 0 0 Tr_X4_with :=
  ab_con_of (own := RX4) (rt := 1) (tb := tbX4) (ini := false) (ca := ca_X4_with) (by decide +kernel) rfl (fun h => by cases h) rfl lw_wd_ok wtbX4 lw_ar cm_X4_with
    (fun p e R s m args below meth c K hcx => by
      obtain ⟨hx, hb, hml, hown, hF, rfl⟩ := hcx
      exact ab_lk_all (ab_all_c (ab_tc_S hx hb hml hown lw_wd_ok hF ⟨rfl, rfl⟩ (con_X4_isIn l D ty base) (lw_wi (by decide +kernel) (by decide +kernel)) (lw_wi (by decide +kernel) (by decide +kernel)) (lw_wi (by decide +kernel) (by decide +kernel)) (lw_wi (by decide +kernel) (by decide +kernel)) (by decide +kernel) ⟨by decide, by decide⟩) (ab_all_c (ab_tc_V hx hb hml hown lw_wd_ok hF ⟨rfl, rfl⟩ (con_X4_isCovered l D ty base) rfl (lw_wi (by decide +kernel) (by decide +kernel)) (lw_wi (by decide +kernel) (by decide +kernel)) (lw_wi (by decide +kernel) (by decide +kernel)) (lw_wi (by decide +kernel) (by decide +kernel)) (lw_wi (by decide +kernel) (by decide +kernel)) (by decide +kernel) ⟨by decide, by decide⟩) (ab_all_n))))
    (by intro as h K ht; unfold Tr_X4_with at ht; split at ht <;> first | exact ht.elim | exact Nat.le_of_ble_eq_true rfl) (sem_X4_with base)
