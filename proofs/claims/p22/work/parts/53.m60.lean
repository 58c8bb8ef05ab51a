/-! ===== the law: a day is told ahead, and goes by ===== -/
/- -/
def LwS (h : AH) (r s : Nat) (A : SA) (S O : RS) (fc : Int → Int) (T : TS) (N : SN) (M Mg : SM) (b nb : Nat) (fb : Int → Int) (g n : Nat) (F : Int → Int → Int) (g2 : Nat) (Rr : Int → Int) (q : Nat) (dd : Int → Int) : Prop :=
  LX h r s A (S, O, fc, T) N M b nb fb g n F g2 Rr ∧ Good S Mg ∧ h q = some (.inr (.inl (0, 4, dd))) ∧ ¬ q ∈ r :: srL A
theorem ls_cls {h h' : AH} {r s : Nat} {A : SA} {S O S' O' : RS} {fc fc' : Int → Int} {T : TS} {N : SN} {M Mg Mg' : SM} {b nb : Nat} {fb : Int → Int} {g n : Nat} {F : Int → Int → Int} {g2 : Nat} {Rr : Int → Int} {q : Nat} {dd : Int → Int} {L : List Nat} (x : LwS h r s A S O fc T N M Mg b nb fb g n F g2 Rr q dd) (h1 : ab_sr h' r = some (A, (S', O', fc', T))) (fr : ab_fr h h' L) (hL : ∀ b ∈ L, b ∈ r :: srL A) (hg : Good S' Mg') : LwS h' r s A S' O' fc' T N M Mg' b nb fb g n F g2 Rr q dd :=
  ⟨lx_cls x.1 (sr_el h1) fr hL, hg, (fr q (fun u => x.2.2.2 (hL q u))).trans x.2.2.1, x.2.2.2⟩
theorem tk_f {S O : RS} {M : SM} (hg : Good S M) (hO : RB O) (f r : Int) : (blowF (cpF O S) f r).2.blown - S.blown = (stormS M f r).tk - M.tk := by
  have h1 := (good_blow (good_cp hg hO) f r).2.2.2.2.2.2
  have h2 := hg.2.2.2.2.2.2
  omega
theorem fore_f {S O : RS} {M : SM} {T : TS} {fc : Int → Int} (hg : Good S M) (hT : TabR T M) (hO : RB O) (hd : S.day < 1000000) : foreF (foreP (S, O, fc, T)).2 0 = onS (passS M) 0 ∧ foreF (foreP (S, O, fc, T)).2 1 = onS (passS M) 1 ∧ foreF (foreP (S, O, fc, T)).2 2 = rotS (passS M) := by
  have h := good_pass (good_cp hg hO) hT fc hd
  exact ⟨on_eq h.2.1 h.2.2, crk_eq h.2.2, rot_eq h.2.2⟩
theorem mb_storm {S : RS} {M : SM} (hg : Good S M) (mb : MB M) (f r : Int) : MB (stormS M f r) := by
  have o := stormS_o M f r
  have g := good_blow hg f r
  have w := g.2.1.2.2.2.2
  have hl := g.1.laid_r
  have e := g.2.2.2.2.2.2
  have w4 := g.2.1.2.2.2.1.1
  have w3 := (sumR_rb (g := fun s => decide ((blowF S f r).2.onr s = 1)) (blowF S f r).2.laid.toNat 0).1
  refine ⟨fun k => ?_, by rw [o.2.1]; exact mb.2.1, by rw [o.2.2.1]; exact mb.2.2.1, by rw [o.1]; exact mb.2.2.2.1, by rw [o.2.2.2]; exact mb.2.2.2.2.1, by omega⟩
  have b := mb.1 k
  rcases stormS_sl M f r k with q | q
  · rw [q]; exact b
  · rw [q]
    obtain ⟨b1, b2, b3, b4, b5⟩ := b
    exact ⟨b1, b2, b3, b4, Or.inl rfl⟩
theorem day_ok {S : RS} {M : SM} (hg : Good S M) (mb : MB M) {dd : Int → Int} (hd : M.dy (M.day % 7) = dd) : DayOk M (passS M) (dd 0) (dd 1) (dd 2) := by
  subst hd
  intro k k0 k1
  have ho := on_eq hg.2.1 hg.2.2
  have h6 := hg.2.1.2.2.2.1.2
  exact day_sl mb (mb_storm hg mb _ _) (by omega) k0 k1
theorem rot_ok {M : SM} (mb : MB M) {dd : Int → Int} (hd : M.dy (M.day % 7) = dd) {Rr : Int → Int} (hR : ∀ k, 0 ≤ k → k < 96 → Rr k = M.rt (k % 12) (k / 12)) : RotOk (passS M) Rr (dd 3) := by
  subst hd
  intro k k0 k1
  have e1 : comesS (passS M) (M.dy (M.day % 7) 3) (k % 12) (7 - k / 12).toNat = comesS (crkS (stormS M (M.dy (M.day % 7) 0) (M.dy (M.day % 7) 1)) (M.dy (M.day % 7) 2)) (M.dy (M.day % 7) 3) (k % 12) (7 - k / 12).toNat := by
    rw [comes_in, comes_in]; rfl
  have e2 : (passS M).rt (k % 12) (k / 12) = rotP (crkS (stormS M (M.dy (M.day % 7) 0) (M.dy (M.day % 7) 1)) (M.dy (M.day % 7) 2)) (M.dy (M.day % 7) 3) 96 (k % 12) (k / 12) := rfl
  have e3 : (crkS (stormS M (M.dy (M.day % 7) 0) (M.dy (M.day % 7) 1)) (M.dy (M.day % 7) 2)).rt = M.rt := (stormS_o M _ _).2.1
  have b := mb.2.1 (k % 12) (k / 12)
  rw [hR k k0 k1]
  refine ⟨b, ?_⟩
  rw [e2, e1]
  simp only [rotP]
  rw [if_pos (by omega)]
  unfold rotG
  rw [e3]
  generalize comesS (crkS (stormS M (M.dy (M.day % 7) 0) (M.dy (M.day % 7) 1)) (M.dy (M.day % 7) 2)) (M.dy (M.day % 7) 3) (k % 12) (7 - k / 12).toNat = cc
  generalize M.rt (k % 12) (k / 12) = rr at *
  by_cases h5 : 6 ≤ cc
  · by_cases h9 : rr < 9
    · rw [if_pos (show 5 < cc ∧ rr < 9 by omega)]
      simp only [h5, if_true]
      split <;> omega
    · rw [if_neg (show ¬ (5 < cc ∧ rr < 9) by omega)]
      simp only [h5, if_true]
      split <;> omega
  · rw [if_neg (show ¬ (5 < cc ∧ rr < 9) by omega)]
    simp only [h5, if_false]
    split <;> omega
set_option maxRecDepth 100000 in
set_option maxHeartbeats 4000000 in
theorem law_d1 {base : Nat} {V : AVt} {h : AH} {r s b nb g n g2 q : Nat} {fb Rr dd : Int → Int} {F : Int → Int → Int} {A : SA} {S O : RS} {fc : Int → Int} {T : TS} {N : SN} {M Mg : SM} {k z : Nat} (hV : lwHv base V) (hkz : k ≤ 90000 ∧ z ≤ 900000) (hs : LwS h r s A S O fc T N M Mg b nb fb g n F g2 Rr q dd) {e0 e1 tm x4 : Int} {w9 w10 w11 w12 w13 w14 w15 w16 w17 w18 w19 w20 w21 w22 : Option AV} (he0 : dd 0 = e0) (he1 : dd 1 = e1) (hr0 : 0 ≤ e0 ∧ e0 ≤ 20) (hr1 : e1 = 0 ∨ e1 = 1)
    (hE : ∀ h' O', LwS h' r s A S O' fc T N M Mg b nb fb g n F g2 Rr q dd → V 223 [some (.inr (.inl (some b))), some (.inr (.inl (some r))), some (.inr (.inl (some s))), some (.inl (tm)), some (.inl (x4)), some (.inl ((n : Int))), some (.inr (.inl (some g))), some (.inr (.inl (some g2))), some (.inr (.inl (some q))), some (.inl (((stormS Mg e0 e1).tk - Mg.tk))), w10, w11, w12, w13, w14, w15, w16, w17, w18, w19, w20, w21, w22] [] h' k z) : V 199 [some (.inr (.inl (some b))), some (.inr (.inl (some r))), some (.inr (.inl (some s))), some (.inl (tm)), some (.inl (x4)), some (.inl ((n : Int))), some (.inr (.inl (some g))), some (.inr (.inl (some g2))), some (.inr (.inl (some q))), w9, w10, w11, w12, w13, w14, w15, w16, w17, w18, w19, w20, w21, w22] [] h k z := by
  obtain ⟨hA, hB, hsc, hwas, hro, hdj⟩ := id hs.1
  have E := hA.1
  have DO := hA.2.2.1
  dsimp only at E DO
  have hRO := (roof_el DO).1
  have hrg := sr_of hA
  have hqc := hs.2.2.1
  have htk := tk_f hs.2.1 hRO e0 e1
  have aft : ∀ h2 O2, ab_sr h2 r = some (A, (S, O2, fc, T)) → ab_fr h h2 (A.2.1.1 :: A.2.1.2) → V 221 [some (.inr (.inl (some b))), some (.inr (.inl (some r))), some (.inr (.inl (some s))), some (.inl (tm)), some (.inl (x4)), some (.inl ((n : Int))), some (.inr (.inl (some g))), some (.inr (.inl (some g2))), some (.inr (.inl (some q))), w9, w10, w11, w12, w13, w14, w15, w16, w17, w18, w19, w20, w21, w22] [.inl ((stormS Mg e0 e1).tk - Mg.tk)] h2 k z := by
    intro h2 O2 w1 w2
    have i0 := hE h2 O2 (ls_cls hs w1 w2 (in_trial r A) hs.2.1)
    clear hA hB hsc hwas hro hdj hs hE
    refine hV (fun p => p == 223) 80 _ _ _ _ _ _ ?_
    simp only [bI_in, bI_0, bI_1, bI_t, bI_f, bI_01, ae_istore, dL_law_221, ca_L_law_75, ca_L_law_76, ca_L_law_34, ca_L_law_80, ca_L_law_84, ca_L_law_88, ca_L_law_91, ca_L_law_99, ca_L_law_103, ca_L_law_106, ca_L_law_109, ca_L_law_112, ca_L_law_114, ca_L_law_118, ca_L_law_121, ca_L_law_126, ca_L_law_129, ca_L_law_135, ca_L_law_40, ca_L_law_139, ca_L_law_27, ca_L_law_23, ca_L_law_142, ab_wp0, ab_wps, ab_stp, ab_g, ab_st, ab_k2, ab_cl, ab_pop, ab_sz, ab_2, ab_ret, ab_f4, ab_tg, ab_I, ab_II, ab_A, ab_Rf, ab_VR, ab_IR, ab_VIR, ab_1, ab_LL, ab_DD, ab_ob, ab_pr, ab_qr, ab_ln, ab_so, ab_vI, ab_vA, ab_vD, ab_vL, ab_v2, ab_c, ab_fit, ab_rv, ab_tsw, ab_lsw, ab_up_eq, Fin.isValue, ab_f0, ab_f1, ab_f2, ab_f3, List.getElem?_cons_zero, List.getElem?_cons_succ, List.set_cons_zero, List.set_cons_succ, List.length_cons, List.length_nil, List.size_toArray, List.head?_cons, List.tail_cons, Option.map_some, cond_true, cond_false, true_and, and_true, false_and, and_false, not_true_eq_false, not_false_eq_true, true_imp_iff, false_imp_iff, if_true, if_false, ite_true, ite_false, ↓reduceIte, Nat.reduceAdd, Nat.reduceEqDiff, Nat.reduceLeDiff, Nat.reduceLT, Nat.reduceBEq, Nat.reduceBNe, Int.reduceAdd, Int.reduceNeg, Int.reduceSub, Int.reduceLE, Int.reduceLT, Int.reduceToNat, Int.reduceEq, Int.reduceMul, Int.cast_ofNat_Int, Nat.zero_add, Nat.add_zero, Nat.le_refl, eq_self, ne_eq, reduceCtorEq, or_true, true_or, or_false, false_or, Bool.or_true, Bool.or_false, Bool.true_or, Bool.false_or, Nat.zero_le, Int.le_refl, Int.ofNat_zero, Int.ofNat_one, Bool.false_eq_true]
    try simp only [ab_in]
    (repeat' (first | intro _ | refine And.intro ?_ ?_)) <;> (first | exact i0 | contradiction | omega | (exfalso; omega))
  clear hA hB hsc hwas hro hdj hs hE
  rcases hr1 with rfl | rfl
  · refine hV (fun p => p == 221) 80 _ _ _ _ _ _ ?_
    simp only [hqc, he0, he1, E, hrg, htk, bI_in, bI_0, bI_1, bI_t, bI_f, bI_01, Tr_X3_storm, ae_aload, ae_aload_n, ae_goto, ae_iaload, ae_iconst, ae_if_icmp, ae_invokevirtual, dL_law_199, dL_law_200, dL_law_202, dL_law_203, dL_law_204, dL_law_206, dL_law_207, dL_law_208, dL_law_209, dL_law_212, dL_law_213, dL_law_216, dL_law_217, dL_law_218, ca_L_law_75, ca_L_law_76, ca_L_law_34, ca_L_law_80, ca_L_law_84, ca_L_law_88, ca_L_law_91, ca_L_law_99, ca_L_law_103, ca_L_law_106, ca_L_law_109, ca_L_law_112, ca_L_law_114, ca_L_law_118, ca_L_law_121, ca_L_law_126, ca_L_law_129, ca_L_law_135, ca_L_law_40, ca_L_law_139, ca_L_law_27, ca_L_law_23, ca_L_law_142, ab_wp0, ab_wps, ab_stp, ab_g, ab_st, ab_k2, ab_cl, ab_pop, ab_sz, ab_2, ab_ret, ab_f4, ab_tg, ab_I, ab_II, ab_A, ab_Rf, ab_VR, ab_IR, ab_VIR, ab_1, ab_LL, ab_DD, ab_ob, ab_pr, ab_qr, ab_ln, ab_so, ab_vI, ab_vA, ab_vD, ab_vL, ab_v2, ab_c, ab_fit, ab_rv, ab_tsw, ab_lsw, ab_up_eq, Fin.isValue, ab_f0, ab_f1, ab_f2, ab_f3, List.getElem?_cons_zero, List.getElem?_cons_succ, List.set_cons_zero, List.set_cons_succ, List.length_cons, List.length_nil, List.size_toArray, List.head?_cons, List.tail_cons, Option.map_some, cond_true, cond_false, true_and, and_true, false_and, and_false, not_true_eq_false, not_false_eq_true, true_imp_iff, false_imp_iff, if_true, if_false, ite_true, ite_false, ↓reduceIte, Nat.reduceAdd, Nat.reduceEqDiff, Nat.reduceLeDiff, Nat.reduceLT, Nat.reduceBEq, Nat.reduceBNe, Int.reduceAdd, Int.reduceNeg, Int.reduceSub, Int.reduceLE, Int.reduceLT, Int.reduceToNat, Int.reduceEq, Int.reduceMul, Int.cast_ofNat_Int, Nat.zero_add, Nat.add_zero, Nat.le_refl, eq_self, ne_eq, reduceCtorEq, or_true, true_or, or_false, false_or, Bool.or_true, Bool.or_false, Bool.true_or, Bool.false_or, Nat.zero_le, Int.le_refl, Int.ofNat_zero, Int.ofNat_one, Bool.false_eq_true]
    try simp only [ab_in]
    (repeat' (first | intro _ | refine And.intro ?_ ?_)) <;> (first | exact aft _ _ (by assumption) (by assumption) | exact rfl | contradiction | omega | (exfalso; omega))
  · refine hV (fun p => p == 221) 80 _ _ _ _ _ _ ?_
    simp only [hqc, he0, he1, E, hrg, htk, bI_in, bI_0, bI_1, bI_t, bI_f, bI_01, Tr_X3_storm, ae_aload, ae_aload_n, ae_goto, ae_iaload, ae_iconst, ae_if_icmp, ae_invokevirtual, dL_law_199, dL_law_200, dL_law_202, dL_law_203, dL_law_204, dL_law_206, dL_law_207, dL_law_208, dL_law_209, dL_law_212, dL_law_213, dL_law_216, dL_law_217, dL_law_218, ca_L_law_75, ca_L_law_76, ca_L_law_34, ca_L_law_80, ca_L_law_84, ca_L_law_88, ca_L_law_91, ca_L_law_99, ca_L_law_103, ca_L_law_106, ca_L_law_109, ca_L_law_112, ca_L_law_114, ca_L_law_118, ca_L_law_121, ca_L_law_126, ca_L_law_129, ca_L_law_135, ca_L_law_40, ca_L_law_139, ca_L_law_27, ca_L_law_23, ca_L_law_142, ab_wp0, ab_wps, ab_stp, ab_g, ab_st, ab_k2, ab_cl, ab_pop, ab_sz, ab_2, ab_ret, ab_f4, ab_tg, ab_I, ab_II, ab_A, ab_Rf, ab_VR, ab_IR, ab_VIR, ab_1, ab_LL, ab_DD, ab_ob, ab_pr, ab_qr, ab_ln, ab_so, ab_vI, ab_vA, ab_vD, ab_vL, ab_v2, ab_c, ab_fit, ab_rv, ab_tsw, ab_lsw, ab_up_eq, Fin.isValue, ab_f0, ab_f1, ab_f2, ab_f3, List.getElem?_cons_zero, List.getElem?_cons_succ, List.set_cons_zero, List.set_cons_succ, List.length_cons, List.length_nil, List.size_toArray, List.head?_cons, List.tail_cons, Option.map_some, cond_true, cond_false, true_and, and_true, false_and, and_false, not_true_eq_false, not_false_eq_true, true_imp_iff, false_imp_iff, if_true, if_false, ite_true, ite_false, ↓reduceIte, Nat.reduceAdd, Nat.reduceEqDiff, Nat.reduceLeDiff, Nat.reduceLT, Nat.reduceBEq, Nat.reduceBNe, Int.reduceAdd, Int.reduceNeg, Int.reduceSub, Int.reduceLE, Int.reduceLT, Int.reduceToNat, Int.reduceEq, Int.reduceMul, Int.cast_ofNat_Int, Nat.zero_add, Nat.add_zero, Nat.le_refl, eq_self, ne_eq, reduceCtorEq, or_true, true_or, or_false, false_or, Bool.or_true, Bool.or_false, Bool.true_or, Bool.false_or, Nat.zero_le, Int.le_refl, Int.ofNat_zero, Int.ofNat_one, Bool.false_eq_true]
    try simp only [ab_in]
    (repeat' (first | intro _ | refine And.intro ?_ ?_)) <;> (first | exact aft _ _ (by assumption) (by assumption) | exact rfl | contradiction | omega | (exfalso; omega))
set_option maxRecDepth 100000 in
set_option maxHeartbeats 4000000 in
theorem law_d2 {base : Nat} {V : AVt} {h : AH} {r s b nb g n g2 q : Nat} {fb Rr dd : Int → Int} {F : Int → Int → Int} {A : SA} {S O : RS} {fc : Int → Int} {T : TS} {N : SN} {M Mg : SM} {k z : Nat} (hV : lwHv base V) (hkz : k ≤ 90000 ∧ z ≤ 900000) (hs : LwS h r s A S O fc T N M Mg b nb fb g n F g2 Rr q dd) {e1 tm x4 v9 : Int} {w10 w11 w12 w13 w14 w15 w16 w17 w18 w19 w20 w21 w22 : Option AV} (he1 : dd 1 = e1) (hr1 : e1 = 0 ∨ e1 = 1)
    (hE : ∀ h' S' be, LwS h' r s A S' O fc T N M Mg b nb fb g n F g2 Rr q dd → (0 ≤ be ∧ be ≤ 20) → (∀ f, 1 ≤ f → f ≤ be → anyR (goesS Mg f e1) Mg.n 0 = false) → (be < 20 → anyR (goesS Mg (be + 1) e1) Mg.n 0 = true) → V 242 [some (.inr (.inl (some b))), some (.inr (.inl (some r))), some (.inr (.inl (some s))), some (.inl (tm)), some (.inl (x4)), some (.inl ((n : Int))), some (.inr (.inl (some g))), some (.inr (.inl (some g2))), some (.inr (.inl (some q))), some (.inl (v9)), some (.inl (be)), w11, w12, w13, w14, w15, w16, w17, w18, w19, w20, w21, w22] [] h' k z) : V 223 [some (.inr (.inl (some b))), some (.inr (.inl (some r))), some (.inr (.inl (some s))), some (.inl (tm)), some (.inl (x4)), some (.inl ((n : Int))), some (.inr (.inl (some g))), some (.inr (.inl (some g2))), some (.inr (.inl (some q))), some (.inl (v9)), w10, w11, w12, w13, w14, w15, w16, w17, w18, w19, w20, w21, w22] [] h k z := by
  obtain ⟨hA, hB, hsc, hwas, hro, hdj⟩ := id hs.1
  have E := hA.1
  have DO := hA.2.2.1
  dsimp only at E DO
  have hRO := (roof_el DO).1
  have hrg := sr_of hA
  have hqc := hs.2.2.1
  obtain ⟨y1, y2, y3, y4, y5⟩ := bears_f hs.2.1 e1
  have aft : ∀ h2, ab_sr h2 r = some (A, ((bearsF e1 S).2, O, fc, T)) → ab_fr h h2 (A.1.1 :: A.1.2) → V 240 [some (.inr (.inl (some b))), some (.inr (.inl (some r))), some (.inr (.inl (some s))), some (.inl (tm)), some (.inl (x4)), some (.inl ((n : Int))), some (.inr (.inl (some g))), some (.inr (.inl (some g2))), some (.inr (.inl (some q))), some (.inl (v9)), w10, w11, w12, w13, w14, w15, w16, w17, w18, w19, w20, w21, w22] [.inl (bearsF e1 S).1] h2 k z := by
    intro h2 w1 w2
    have i0 := hE h2 _ _ (ls_cls hs w1 w2 (in_roof r A) y5) ⟨y1, y2⟩ y3 y4
    clear hA hB hsc hwas hro hdj hs hE
    refine hV (fun p => p == 242) 80 _ _ _ _ _ _ ?_
    simp only [bI_in, bI_0, bI_1, bI_t, bI_f, bI_01, ae_istore, dL_law_240, ca_L_law_75, ca_L_law_76, ca_L_law_34, ca_L_law_80, ca_L_law_84, ca_L_law_88, ca_L_law_91, ca_L_law_99, ca_L_law_103, ca_L_law_106, ca_L_law_109, ca_L_law_112, ca_L_law_114, ca_L_law_118, ca_L_law_121, ca_L_law_126, ca_L_law_129, ca_L_law_135, ca_L_law_40, ca_L_law_139, ca_L_law_27, ca_L_law_23, ca_L_law_142, ab_wp0, ab_wps, ab_stp, ab_g, ab_st, ab_k2, ab_cl, ab_pop, ab_sz, ab_2, ab_ret, ab_f4, ab_tg, ab_I, ab_II, ab_A, ab_Rf, ab_VR, ab_IR, ab_VIR, ab_1, ab_LL, ab_DD, ab_ob, ab_pr, ab_qr, ab_ln, ab_so, ab_vI, ab_vA, ab_vD, ab_vL, ab_v2, ab_c, ab_fit, ab_rv, ab_tsw, ab_lsw, ab_up_eq, Fin.isValue, ab_f0, ab_f1, ab_f2, ab_f3, List.getElem?_cons_zero, List.getElem?_cons_succ, List.set_cons_zero, List.set_cons_succ, List.length_cons, List.length_nil, List.size_toArray, List.head?_cons, List.tail_cons, Option.map_some, cond_true, cond_false, true_and, and_true, false_and, and_false, not_true_eq_false, not_false_eq_true, true_imp_iff, false_imp_iff, if_true, if_false, ite_true, ite_false, ↓reduceIte, Nat.reduceAdd, Nat.reduceEqDiff, Nat.reduceLeDiff, Nat.reduceLT, Nat.reduceBEq, Nat.reduceBNe, Int.reduceAdd, Int.reduceNeg, Int.reduceSub, Int.reduceLE, Int.reduceLT, Int.reduceToNat, Int.reduceEq, Int.reduceMul, Int.cast_ofNat_Int, Nat.zero_add, Nat.add_zero, Nat.le_refl, eq_self, ne_eq, reduceCtorEq, or_true, true_or, or_false, false_or, Bool.or_true, Bool.or_false, Bool.true_or, Bool.false_or, Nat.zero_le, Int.le_refl, Int.ofNat_zero, Int.ofNat_one, Bool.false_eq_true]
    try simp only [ab_in]
    (repeat' (first | intro _ | refine And.intro ?_ ?_)) <;> (first | exact i0 | contradiction | omega | (exfalso; omega))
  clear hA hB hsc hwas hro hdj hs hE
  clear y1 y2 y3 y4 y5
  rcases hr1 with rfl | rfl
  · refine hV (fun p => p == 240) 80 _ _ _ _ _ _ ?_
    simp only [hqc, he1, E, hrg, bI_in, bI_0, bI_1, bI_t, bI_f, bI_01, Tr_X3_bears, ae_aload, ae_aload_n, ae_goto, ae_iaload, ae_iconst, ae_if_icmp, ae_invokevirtual, dL_law_223, dL_law_224, dL_law_226, dL_law_227, dL_law_228, dL_law_229, dL_law_232, dL_law_233, dL_law_236, dL_law_237, ca_L_law_75, ca_L_law_76, ca_L_law_34, ca_L_law_80, ca_L_law_84, ca_L_law_88, ca_L_law_91, ca_L_law_99, ca_L_law_103, ca_L_law_106, ca_L_law_109, ca_L_law_112, ca_L_law_114, ca_L_law_118, ca_L_law_121, ca_L_law_126, ca_L_law_129, ca_L_law_135, ca_L_law_40, ca_L_law_139, ca_L_law_27, ca_L_law_23, ca_L_law_142, ab_wp0, ab_wps, ab_stp, ab_g, ab_st, ab_k2, ab_cl, ab_pop, ab_sz, ab_2, ab_ret, ab_f4, ab_tg, ab_I, ab_II, ab_A, ab_Rf, ab_VR, ab_IR, ab_VIR, ab_1, ab_LL, ab_DD, ab_ob, ab_pr, ab_qr, ab_ln, ab_so, ab_vI, ab_vA, ab_vD, ab_vL, ab_v2, ab_c, ab_fit, ab_rv, ab_tsw, ab_lsw, ab_up_eq, Fin.isValue, ab_f0, ab_f1, ab_f2, ab_f3, List.getElem?_cons_zero, List.getElem?_cons_succ, List.set_cons_zero, List.set_cons_succ, List.length_cons, List.length_nil, List.size_toArray, List.head?_cons, List.tail_cons, Option.map_some, cond_true, cond_false, true_and, and_true, false_and, and_false, not_true_eq_false, not_false_eq_true, true_imp_iff, false_imp_iff, if_true, if_false, ite_true, ite_false, ↓reduceIte, Nat.reduceAdd, Nat.reduceEqDiff, Nat.reduceLeDiff, Nat.reduceLT, Nat.reduceBEq, Nat.reduceBNe, Int.reduceAdd, Int.reduceNeg, Int.reduceSub, Int.reduceLE, Int.reduceLT, Int.reduceToNat, Int.reduceEq, Int.reduceMul, Int.cast_ofNat_Int, Nat.zero_add, Nat.add_zero, Nat.le_refl, eq_self, ne_eq, reduceCtorEq, or_true, true_or, or_false, false_or, Bool.or_true, Bool.or_false, Bool.true_or, Bool.false_or, Nat.zero_le, Int.le_refl, Int.ofNat_zero, Int.ofNat_one, Bool.false_eq_true]
    try simp only [ab_in]
    (repeat' (first | intro _ | refine And.intro ?_ ?_)) <;> (first | exact aft _ (by assumption) (by assumption) | exact rfl | contradiction | omega | (exfalso; omega))
  · refine hV (fun p => p == 240) 80 _ _ _ _ _ _ ?_
    simp only [hqc, he1, E, hrg, bI_in, bI_0, bI_1, bI_t, bI_f, bI_01, Tr_X3_bears, ae_aload, ae_aload_n, ae_goto, ae_iaload, ae_iconst, ae_if_icmp, ae_invokevirtual, dL_law_223, dL_law_224, dL_law_226, dL_law_227, dL_law_228, dL_law_229, dL_law_232, dL_law_233, dL_law_236, dL_law_237, ca_L_law_75, ca_L_law_76, ca_L_law_34, ca_L_law_80, ca_L_law_84, ca_L_law_88, ca_L_law_91, ca_L_law_99, ca_L_law_103, ca_L_law_106, ca_L_law_109, ca_L_law_112, ca_L_law_114, ca_L_law_118, ca_L_law_121, ca_L_law_126, ca_L_law_129, ca_L_law_135, ca_L_law_40, ca_L_law_139, ca_L_law_27, ca_L_law_23, ca_L_law_142, ab_wp0, ab_wps, ab_stp, ab_g, ab_st, ab_k2, ab_cl, ab_pop, ab_sz, ab_2, ab_ret, ab_f4, ab_tg, ab_I, ab_II, ab_A, ab_Rf, ab_VR, ab_IR, ab_VIR, ab_1, ab_LL, ab_DD, ab_ob, ab_pr, ab_qr, ab_ln, ab_so, ab_vI, ab_vA, ab_vD, ab_vL, ab_v2, ab_c, ab_fit, ab_rv, ab_tsw, ab_lsw, ab_up_eq, Fin.isValue, ab_f0, ab_f1, ab_f2, ab_f3, List.getElem?_cons_zero, List.getElem?_cons_succ, List.set_cons_zero, List.set_cons_succ, List.length_cons, List.length_nil, List.size_toArray, List.head?_cons, List.tail_cons, Option.map_some, cond_true, cond_false, true_and, and_true, false_and, and_false, not_true_eq_false, not_false_eq_true, true_imp_iff, false_imp_iff, if_true, if_false, ite_true, ite_false, ↓reduceIte, Nat.reduceAdd, Nat.reduceEqDiff, Nat.reduceLeDiff, Nat.reduceLT, Nat.reduceBEq, Nat.reduceBNe, Int.reduceAdd, Int.reduceNeg, Int.reduceSub, Int.reduceLE, Int.reduceLT, Int.reduceToNat, Int.reduceEq, Int.reduceMul, Int.cast_ofNat_Int, Nat.zero_add, Nat.add_zero, Nat.le_refl, eq_self, ne_eq, reduceCtorEq, or_true, true_or, or_false, false_or, Bool.or_true, Bool.or_false, Bool.true_or, Bool.false_or, Nat.zero_le, Int.le_refl, Int.ofNat_zero, Int.ofNat_one, Bool.false_eq_true]
    try simp only [ab_in]
    (repeat' (first | intro _ | refine And.intro ?_ ?_)) <;> (first | exact aft _ (by assumption) (by assumption) | exact rfl | contradiction | omega | (exfalso; omega))
set_option maxRecDepth 100000 in
set_option maxHeartbeats 4000000 in
theorem law_d3 {base : Nat} {V : AVt} {h : AH} {r s b nb g n g2 q : Nat} {fb Rr dd : Int → Int} {F : Int → Int → Int} {A : SA} {S O : RS} {fc : Int → Int} {T : TS} {N : SN} {M Mg : SM} {k z : Nat} (hV : lwHv base V) (hkz : k ≤ 90000 ∧ z ≤ 900000) (hs : LwS h r s A S O fc T N M Mg b nb fb g n F g2 Rr q dd) {e0 e1 tm x4 v9 be : Int} {w11 w12 w13 w14 w15 w16 w17 w18 w19 w20 w21 w22 : Option AV} (he0 : dd 0 = e0) (he1 : dd 1 = e1) (hr0 : 0 ≤ e0 ∧ e0 ≤ 20) (hr1 : e1 = 0 ∨ e1 = 1) (hv9 : v9 = (stormS Mg e0 e1).tk - Mg.tk) (hvr : -1000000 ≤ v9 ∧ v9 ≤ 1000000)
    (hbe : 0 ≤ be ∧ be ≤ 20) (hb1 : ∀ f, 1 ≤ f → f ≤ be → anyR (goesS Mg f e1) Mg.n 0 = false) (hb2 : be < 20 → anyR (goesS Mg (be + 1) e1) Mg.n 0 = true)
    (hE : ∀ h' O', LwS h' r s A S O' fc T N M Mg b nb fb g n F g2 Rr q dd → V 294 [some (.inr (.inl (some b))), some (.inr (.inl (some r))), some (.inr (.inl (some s))), some (.inl (tm)), some (.inl (x4)), some (.inl ((n : Int))), some (.inr (.inl (some g))), some (.inr (.inl (some g2))), some (.inr (.inl (some q))), some (.inl (v9)), some (.inl (be)), w11, w12, w13, w14, w15, w16, w17, w18, w19, w20, w21, w22] [] h' k z) : V 242 [some (.inr (.inl (some b))), some (.inr (.inl (some r))), some (.inr (.inl (some s))), some (.inl (tm)), some (.inl (x4)), some (.inl ((n : Int))), some (.inr (.inl (some g))), some (.inr (.inl (some g2))), some (.inr (.inl (some q))), some (.inl (v9)), some (.inl (be)), w11, w12, w13, w14, w15, w16, w17, w18, w19, w20, w21, w22] [] h k z := by
  obtain ⟨hA, hB, hsc, hwas, hro, hdj⟩ := id hs.1
  have E := hA.1
  have DO := hA.2.2.1
  dsimp only at E DO
  have hRO := (roof_el DO).1
  have hrg := sr_of hA
  have hqc := hs.2.2.1
  have htk := tk_f hs.2.1 hRO be e1
  have hz : (stormS Mg be e1).tk - Mg.tk = 0 := storm_none (by
    by_cases q : be < 1
    · exact Or.inl q
    · exact Or.inr (hb1 be (by omega) (Int.le_refl _)))
  rw [hz] at htk
  have hiff : 0 < v9 ↔ be < e0 := by
    rw [hv9, storm_takes]
    constructor
    · rintro ⟨a, c⟩
      by_cases q : be < e0
      · exact q
      · rw [hb1 e0 a (by omega)] at c; cases c
    · intro q
      exact ⟨by omega, goes_mono (by omega) (hb2 (by omega))⟩
  have aft : ∀ h2 O2, ab_sr h2 r = some (A, (S, O2, fc, T)) → ab_fr h h2 (A.2.1.1 :: A.2.1.2) → V 289 [some (.inr (.inl (some b))), some (.inr (.inl (some r))), some (.inr (.inl (some s))), some (.inl (tm)), some (.inl (x4)), some (.inl ((n : Int))), some (.inr (.inl (some g))), some (.inr (.inl (some g2))), some (.inr (.inl (some q))), some (.inl (v9)), some (.inl (be)), w11, w12, w13, w14, w15, w16, w17, w18, w19, w20, w21, w22] [.inl 0] h2 k z := by
    intro h2 O2 w1 w2
    have i0 := hE h2 O2 (ls_cls hs w1 w2 (in_trial r A) hs.2.1)
    clear hA hB hsc hwas hro hdj hs hE
    refine hV (fun p => bif p == 292 then true else p == 294) 80 _ _ _ _ _ _ ?_
    simp only [bI_in, bI_0, bI_1, bI_t, bI_f, bI_01, ae_ifCond, dL_law_289, ca_L_law_75, ca_L_law_76, ca_L_law_34, ca_L_law_80, ca_L_law_84, ca_L_law_88, ca_L_law_91, ca_L_law_99, ca_L_law_103, ca_L_law_106, ca_L_law_109, ca_L_law_112, ca_L_law_114, ca_L_law_118, ca_L_law_121, ca_L_law_126, ca_L_law_129, ca_L_law_135, ca_L_law_40, ca_L_law_139, ca_L_law_27, ca_L_law_23, ca_L_law_142, ab_wp0, ab_wps, ab_stp, ab_g, ab_st, ab_k2, ab_cl, ab_pop, ab_sz, ab_2, ab_ret, ab_f4, ab_tg, ab_I, ab_II, ab_A, ab_Rf, ab_VR, ab_IR, ab_VIR, ab_1, ab_LL, ab_DD, ab_ob, ab_pr, ab_qr, ab_ln, ab_so, ab_vI, ab_vA, ab_vD, ab_vL, ab_v2, ab_c, ab_fit, ab_rv, ab_tsw, ab_lsw, ab_up_eq, Fin.isValue, ab_f0, ab_f1, ab_f2, ab_f3, List.getElem?_cons_zero, List.getElem?_cons_succ, List.set_cons_zero, List.set_cons_succ, List.length_cons, List.length_nil, List.size_toArray, List.head?_cons, List.tail_cons, Option.map_some, cond_true, cond_false, true_and, and_true, false_and, and_false, not_true_eq_false, not_false_eq_true, true_imp_iff, false_imp_iff, if_true, if_false, ite_true, ite_false, ↓reduceIte, Nat.reduceAdd, Nat.reduceEqDiff, Nat.reduceLeDiff, Nat.reduceLT, Nat.reduceBEq, Nat.reduceBNe, Int.reduceAdd, Int.reduceNeg, Int.reduceSub, Int.reduceLE, Int.reduceLT, Int.reduceToNat, Int.reduceEq, Int.reduceMul, Int.cast_ofNat_Int, Nat.zero_add, Nat.add_zero, Nat.le_refl, eq_self, ne_eq, reduceCtorEq, or_true, true_or, or_false, false_or, Bool.or_true, Bool.or_false, Bool.true_or, Bool.false_or, Nat.zero_le, Int.le_refl, Int.ofNat_zero, Int.ofNat_one, Bool.false_eq_true]
    try simp only [ab_in]
    (repeat' (first | intro _ | refine And.intro ?_ ?_)) <;> (first | exact i0 | contradiction | omega | (exfalso; omega))
  clear hA hB hsc hwas hro hdj hs hE
  clear hb1 hb2 hz hv9
  have mid : V 269 [some (.inr (.inl (some b))), some (.inr (.inl (some r))), some (.inr (.inl (some s))), some (.inl (tm)), some (.inl (x4)), some (.inl ((n : Int))), some (.inr (.inl (some g))), some (.inr (.inl (some g2))), some (.inr (.inl (some q))), some (.inl (v9)), some (.inl (be)), w11, w12, w13, w14, w15, w16, w17, w18, w19, w20, w21, w22] [] h k z := by
    rcases hr1 with rfl | rfl
    · refine hV (fun p => p == 289) 80 _ _ _ _ _ _ ?_
      simp only [hqc, he1, E, hrg, htk, bI_in, bI_0, bI_1, bI_t, bI_f, bI_01, Tr_X3_storm, ae_aload, ae_aload_n, ae_goto, ae_iaload, ae_iconst, ae_if_icmp, ae_iload, ae_invokevirtual, dL_law_269, dL_law_270, dL_law_272, dL_law_274, dL_law_275, dL_law_276, dL_law_277, dL_law_280, dL_law_281, dL_law_284, dL_law_285, dL_law_286, ca_L_law_75, ca_L_law_76, ca_L_law_34, ca_L_law_80, ca_L_law_84, ca_L_law_88, ca_L_law_91, ca_L_law_99, ca_L_law_103, ca_L_law_106, ca_L_law_109, ca_L_law_112, ca_L_law_114, ca_L_law_118, ca_L_law_121, ca_L_law_126, ca_L_law_129, ca_L_law_135, ca_L_law_40, ca_L_law_139, ca_L_law_27, ca_L_law_23, ca_L_law_142, ab_wp0, ab_wps, ab_stp, ab_g, ab_st, ab_k2, ab_cl, ab_pop, ab_sz, ab_2, ab_ret, ab_f4, ab_tg, ab_I, ab_II, ab_A, ab_Rf, ab_VR, ab_IR, ab_VIR, ab_1, ab_LL, ab_DD, ab_ob, ab_pr, ab_qr, ab_ln, ab_so, ab_vI, ab_vA, ab_vD, ab_vL, ab_v2, ab_c, ab_fit, ab_rv, ab_tsw, ab_lsw, ab_up_eq, Fin.isValue, ab_f0, ab_f1, ab_f2, ab_f3, List.getElem?_cons_zero, List.getElem?_cons_succ, List.set_cons_zero, List.set_cons_succ, List.length_cons, List.length_nil, List.size_toArray, List.head?_cons, List.tail_cons, Option.map_some, cond_true, cond_false, true_and, and_true, false_and, and_false, not_true_eq_false, not_false_eq_true, true_imp_iff, false_imp_iff, if_true, if_false, ite_true, ite_false, ↓reduceIte, Nat.reduceAdd, Nat.reduceEqDiff, Nat.reduceLeDiff, Nat.reduceLT, Nat.reduceBEq, Nat.reduceBNe, Int.reduceAdd, Int.reduceNeg, Int.reduceSub, Int.reduceLE, Int.reduceLT, Int.reduceToNat, Int.reduceEq, Int.reduceMul, Int.cast_ofNat_Int, Nat.zero_add, Nat.add_zero, Nat.le_refl, eq_self, ne_eq, reduceCtorEq, or_true, true_or, or_false, false_or, Bool.or_true, Bool.or_false, Bool.true_or, Bool.false_or, Nat.zero_le, Int.le_refl, Int.ofNat_zero, Int.ofNat_one, Bool.false_eq_true]
      try simp only [ab_in]
      (repeat' (first | intro _ | refine And.intro ?_ ?_)) <;> (first | exact aft _ _ (by assumption) (by assumption) | exact rfl | contradiction | omega | (exfalso; omega))
    · refine hV (fun p => p == 289) 80 _ _ _ _ _ _ ?_
      simp only [hqc, he1, E, hrg, htk, bI_in, bI_0, bI_1, bI_t, bI_f, bI_01, Tr_X3_storm, ae_aload, ae_aload_n, ae_goto, ae_iaload, ae_iconst, ae_if_icmp, ae_iload, ae_invokevirtual, dL_law_269, dL_law_270, dL_law_272, dL_law_274, dL_law_275, dL_law_276, dL_law_277, dL_law_280, dL_law_281, dL_law_284, dL_law_285, dL_law_286, ca_L_law_75, ca_L_law_76, ca_L_law_34, ca_L_law_80, ca_L_law_84, ca_L_law_88, ca_L_law_91, ca_L_law_99, ca_L_law_103, ca_L_law_106, ca_L_law_109, ca_L_law_112, ca_L_law_114, ca_L_law_118, ca_L_law_121, ca_L_law_126, ca_L_law_129, ca_L_law_135, ca_L_law_40, ca_L_law_139, ca_L_law_27, ca_L_law_23, ca_L_law_142, ab_wp0, ab_wps, ab_stp, ab_g, ab_st, ab_k2, ab_cl, ab_pop, ab_sz, ab_2, ab_ret, ab_f4, ab_tg, ab_I, ab_II, ab_A, ab_Rf, ab_VR, ab_IR, ab_VIR, ab_1, ab_LL, ab_DD, ab_ob, ab_pr, ab_qr, ab_ln, ab_so, ab_vI, ab_vA, ab_vD, ab_vL, ab_v2, ab_c, ab_fit, ab_rv, ab_tsw, ab_lsw, ab_up_eq, Fin.isValue, ab_f0, ab_f1, ab_f2, ab_f3, List.getElem?_cons_zero, List.getElem?_cons_succ, List.set_cons_zero, List.set_cons_succ, List.length_cons, List.length_nil, List.size_toArray, List.head?_cons, List.tail_cons, Option.map_some, cond_true, cond_false, true_and, and_true, false_and, and_false, not_true_eq_false, not_false_eq_true, true_imp_iff, false_imp_iff, if_true, if_false, ite_true, ite_false, ↓reduceIte, Nat.reduceAdd, Nat.reduceEqDiff, Nat.reduceLeDiff, Nat.reduceLT, Nat.reduceBEq, Nat.reduceBNe, Int.reduceAdd, Int.reduceNeg, Int.reduceSub, Int.reduceLE, Int.reduceLT, Int.reduceToNat, Int.reduceEq, Int.reduceMul, Int.cast_ofNat_Int, Nat.zero_add, Nat.add_zero, Nat.le_refl, eq_self, ne_eq, reduceCtorEq, or_true, true_or, or_false, false_or, Bool.or_true, Bool.or_false, Bool.true_or, Bool.false_or, Nat.zero_le, Int.le_refl, Int.ofNat_zero, Int.ofNat_one, Bool.false_eq_true]
      try simp only [ab_in]
      (repeat' (first | intro _ | refine And.intro ?_ ?_)) <;> (first | exact aft _ _ (by assumption) (by assumption) | exact rfl | contradiction | omega | (exfalso; omega))
  clear aft htk
  by_cases q : 0 < v9
  · have q2 := hiff.mp q
    have q3 : ¬ v9 ≤ 0 := by omega
    have q4 : ¬ e0 ≤ be := by omega
    refine hV (fun p => bif p == 269 then true else p == 292) 80 _ _ _ _ _ _ ?_
    simp only [hqc, he0, q3, q4, bI_in, bI_0, bI_1, bI_t, bI_f, bI_01, ae_aload, ae_goto, ae_iaload, ae_iconst, ae_ifCond, ae_if_icmp, ae_iload, dL_law_242, dL_law_244, dL_law_247, dL_law_248, dL_law_251, dL_law_252, dL_law_254, dL_law_255, dL_law_256, dL_law_258, dL_law_261, dL_law_262, dL_law_265, dL_law_266, ca_L_law_75, ca_L_law_76, ca_L_law_34, ca_L_law_80, ca_L_law_84, ca_L_law_88, ca_L_law_91, ca_L_law_99, ca_L_law_103, ca_L_law_106, ca_L_law_109, ca_L_law_112, ca_L_law_114, ca_L_law_118, ca_L_law_121, ca_L_law_126, ca_L_law_129, ca_L_law_135, ca_L_law_40, ca_L_law_139, ca_L_law_27, ca_L_law_23, ca_L_law_142, ab_wp0, ab_wps, ab_stp, ab_g, ab_st, ab_k2, ab_cl, ab_pop, ab_sz, ab_2, ab_ret, ab_f4, ab_tg, ab_I, ab_II, ab_A, ab_Rf, ab_VR, ab_IR, ab_VIR, ab_1, ab_LL, ab_DD, ab_ob, ab_pr, ab_qr, ab_ln, ab_so, ab_vI, ab_vA, ab_vD, ab_vL, ab_v2, ab_c, ab_fit, ab_rv, ab_tsw, ab_lsw, ab_up_eq, Fin.isValue, ab_f0, ab_f1, ab_f2, ab_f3, List.getElem?_cons_zero, List.getElem?_cons_succ, List.set_cons_zero, List.set_cons_succ, List.length_cons, List.length_nil, List.size_toArray, List.head?_cons, List.tail_cons, Option.map_some, cond_true, cond_false, true_and, and_true, false_and, and_false, not_true_eq_false, not_false_eq_true, true_imp_iff, false_imp_iff, if_true, if_false, ite_true, ite_false, ↓reduceIte, Nat.reduceAdd, Nat.reduceEqDiff, Nat.reduceLeDiff, Nat.reduceLT, Nat.reduceBEq, Nat.reduceBNe, Int.reduceAdd, Int.reduceNeg, Int.reduceSub, Int.reduceLE, Int.reduceLT, Int.reduceToNat, Int.reduceEq, Int.reduceMul, Int.cast_ofNat_Int, Nat.zero_add, Nat.add_zero, Nat.le_refl, eq_self, ne_eq, reduceCtorEq, or_true, true_or, or_false, false_or, Bool.or_true, Bool.or_false, Bool.true_or, Bool.false_or, Nat.zero_le, Int.le_refl, Int.ofNat_zero, Int.ofNat_one, Bool.false_eq_true]
    try simp only [ab_in]
    (repeat' (first | intro _ | refine And.intro ?_ ?_)) <;> (first | exact mid | exact rfl | contradiction | omega | (exfalso; omega))
  · have q2 : ¬ be < e0 := fun u => q (hiff.mpr u)
    have q3 : v9 ≤ 0 := by omega
    have q4 : e0 ≤ be := by omega
    refine hV (fun p => bif p == 269 then true else p == 292) 80 _ _ _ _ _ _ ?_
    simp only [hqc, he0, q3, q4, bI_in, bI_0, bI_1, bI_t, bI_f, bI_01, ae_aload, ae_goto, ae_iaload, ae_iconst, ae_ifCond, ae_if_icmp, ae_iload, dL_law_242, dL_law_244, dL_law_247, dL_law_248, dL_law_251, dL_law_252, dL_law_254, dL_law_255, dL_law_256, dL_law_258, dL_law_261, dL_law_262, dL_law_265, dL_law_266, ca_L_law_75, ca_L_law_76, ca_L_law_34, ca_L_law_80, ca_L_law_84, ca_L_law_88, ca_L_law_91, ca_L_law_99, ca_L_law_103, ca_L_law_106, ca_L_law_109, ca_L_law_112, ca_L_law_114, ca_L_law_118, ca_L_law_121, ca_L_law_126, ca_L_law_129, ca_L_law_135, ca_L_law_40, ca_L_law_139, ca_L_law_27, ca_L_law_23, ca_L_law_142, ab_wp0, ab_wps, ab_stp, ab_g, ab_st, ab_k2, ab_cl, ab_pop, ab_sz, ab_2, ab_ret, ab_f4, ab_tg, ab_I, ab_II, ab_A, ab_Rf, ab_VR, ab_IR, ab_VIR, ab_1, ab_LL, ab_DD, ab_ob, ab_pr, ab_qr, ab_ln, ab_so, ab_vI, ab_vA, ab_vD, ab_vL, ab_v2, ab_c, ab_fit, ab_rv, ab_tsw, ab_lsw, ab_up_eq, Fin.isValue, ab_f0, ab_f1, ab_f2, ab_f3, List.getElem?_cons_zero, List.getElem?_cons_succ, List.set_cons_zero, List.set_cons_succ, List.length_cons, List.length_nil, List.size_toArray, List.head?_cons, List.tail_cons, Option.map_some, cond_true, cond_false, true_and, and_true, false_and, and_false, not_true_eq_false, not_false_eq_true, true_imp_iff, false_imp_iff, if_true, if_false, ite_true, ite_false, ↓reduceIte, Nat.reduceAdd, Nat.reduceEqDiff, Nat.reduceLeDiff, Nat.reduceLT, Nat.reduceBEq, Nat.reduceBNe, Int.reduceAdd, Int.reduceNeg, Int.reduceSub, Int.reduceLE, Int.reduceLT, Int.reduceToNat, Int.reduceEq, Int.reduceMul, Int.cast_ofNat_Int, Nat.zero_add, Nat.add_zero, Nat.le_refl, eq_self, ne_eq, reduceCtorEq, or_true, true_or, or_false, false_or, Bool.or_true, Bool.or_false, Bool.true_or, Bool.false_or, Nat.zero_le, Int.le_refl, Int.ofNat_zero, Int.ofNat_one, Bool.false_eq_true]
    try simp only [ab_in]
    (repeat' (first | intro _ | refine And.intro ?_ ?_)) <;> (first | exact mid | exact rfl | contradiction | omega | (exfalso; omega))
set_option maxRecDepth 100000 in
set_option maxHeartbeats 4000000 in
theorem law_d4 {base : Nat} {V : AVt} {h : AH} {r s b nb g n g2 q : Nat} {fb Rr dd : Int → Int} {F : Int → Int → Int} {A : SA} {S O : RS} {fc : Int → Int} {T : TS} {N : SN} {M Mg : SM} {k z : Nat} (hV : lwHv base V) (hkz : k ≤ 90000 ∧ z ≤ 900000) (hs : LwS h r s A S O fc T N M Mg b nb fb g n F g2 Rr q dd) (hT : TabR T Mg) (hday : S.day < 1000000) {tm x4 v9 v10 v11 v12 : Int} {w11 w12 w13 w14 w15 w16 w17 w18 w19 w20 w21 w22 : Option AV}
    (hE : ∀ h' O' fc', LwS h' r s A S O' fc' T N M Mg b nb fb g n F g2 Rr q dd → V 302 [some (.inr (.inl (some b))), some (.inr (.inl (some r))), some (.inr (.inl (some s))), some (.inl (tm)), some (.inl (x4)), some (.inl ((n : Int))), some (.inr (.inl (some g))), some (.inr (.inl (some g2))), some (.inr (.inl (some q))), some (.inl (v9)), some (.inl (v10)), some (.inl ((onS (passS Mg) 0))), w12, w13, w14, w15, w16, w17, w18, w19, w20, w21, w22] [] h' k z) : V 294 [some (.inr (.inl (some b))), some (.inr (.inl (some r))), some (.inr (.inl (some s))), some (.inl (tm)), some (.inl (x4)), some (.inl ((n : Int))), some (.inr (.inl (some g))), some (.inr (.inl (some g2))), some (.inr (.inl (some q))), some (.inl (v9)), some (.inl (v10)), w11, w12, w13, w14, w15, w16, w17, w18, w19, w20, w21, w22] [] h k z := by
  obtain ⟨hA, hB, hsc, hwas, hro, hdj⟩ := id hs.1
  have E := hA.1
  have DO := hA.2.2.1
  dsimp only at E DO
  have hRO := (roof_el DO).1
  have hrg := sr_of hA
  have hqc := hs.2.2.1
  have hf := fore_f (fc := fc) hs.2.1 hT hRO hday
  have aft : ∀ h2 O2 fc2, ab_sr h2 r = some (A, (S, O2, fc2, T)) → ab_fr h h2 ((A.2.1.1 :: A.2.1.2) ++ [A.2.2.1.1, A.2.2.1.2]) → V 300 [some (.inr (.inl (some b))), some (.inr (.inl (some r))), some (.inr (.inl (some s))), some (.inl (tm)), some (.inl (x4)), some (.inl ((n : Int))), some (.inr (.inl (some g))), some (.inr (.inl (some g2))), some (.inr (.inl (some q))), some (.inl (v9)), some (.inl (v10)), w11, w12, w13, w14, w15, w16, w17, w18, w19, w20, w21, w22] [.inl (onS (passS Mg) 0)] h2 k z := by
    intro h2 O2 fc2 w1 w2
    have i0 := hE h2 O2 fc2 (ls_cls hs w1 w2 (in_app (in_trial r A) (in_cov r A)) hs.2.1)
    clear hA hB hsc hwas hro hdj hs hE
    refine hV (fun p => p == 302) 80 _ _ _ _ _ _ ?_
    simp only [bI_in, bI_0, bI_1, bI_t, bI_f, bI_01, ae_istore, dL_law_300, ca_L_law_75, ca_L_law_76, ca_L_law_34, ca_L_law_80, ca_L_law_84, ca_L_law_88, ca_L_law_91, ca_L_law_99, ca_L_law_103, ca_L_law_106, ca_L_law_109, ca_L_law_112, ca_L_law_114, ca_L_law_118, ca_L_law_121, ca_L_law_126, ca_L_law_129, ca_L_law_135, ca_L_law_40, ca_L_law_139, ca_L_law_27, ca_L_law_23, ca_L_law_142, ab_wp0, ab_wps, ab_stp, ab_g, ab_st, ab_k2, ab_cl, ab_pop, ab_sz, ab_2, ab_ret, ab_f4, ab_tg, ab_I, ab_II, ab_A, ab_Rf, ab_VR, ab_IR, ab_VIR, ab_1, ab_LL, ab_DD, ab_ob, ab_pr, ab_qr, ab_ln, ab_so, ab_vI, ab_vA, ab_vD, ab_vL, ab_v2, ab_c, ab_fit, ab_rv, ab_tsw, ab_lsw, ab_up_eq, Fin.isValue, ab_f0, ab_f1, ab_f2, ab_f3, List.getElem?_cons_zero, List.getElem?_cons_succ, List.set_cons_zero, List.set_cons_succ, List.length_cons, List.length_nil, List.size_toArray, List.head?_cons, List.tail_cons, Option.map_some, cond_true, cond_false, true_and, and_true, false_and, and_false, not_true_eq_false, not_false_eq_true, true_imp_iff, false_imp_iff, if_true, if_false, ite_true, ite_false, ↓reduceIte, Nat.reduceAdd, Nat.reduceEqDiff, Nat.reduceLeDiff, Nat.reduceLT, Nat.reduceBEq, Nat.reduceBNe, Int.reduceAdd, Int.reduceNeg, Int.reduceSub, Int.reduceLE, Int.reduceLT, Int.reduceToNat, Int.reduceEq, Int.reduceMul, Int.cast_ofNat_Int, Nat.zero_add, Nat.add_zero, Nat.le_refl, eq_self, ne_eq, reduceCtorEq, or_true, true_or, or_false, false_or, Bool.or_true, Bool.or_false, Bool.true_or, Bool.false_or, Nat.zero_le, Int.le_refl, Int.ofNat_zero, Int.ofNat_one, Bool.false_eq_true]
    try simp only [ab_in]
    (repeat' (first | intro _ | refine And.intro ?_ ?_)) <;> (first | exact i0 | contradiction | omega | (exfalso; omega))
  clear hA hB hsc hwas hro hdj hs hE
  refine hV (fun p => p == 300) 80 _ _ _ _ _ _ ?_
  simp only [E, hrg, hf.1, hf.2.1, hf.2.2, bI_in, bI_0, bI_1, bI_t, bI_f, bI_01, Tr_X3_foresee, ae_aload_n, ae_iconst, ae_invokevirtual, dL_law_294, dL_law_295, dL_law_296, dL_law_297, ca_L_law_75, ca_L_law_76, ca_L_law_34, ca_L_law_80, ca_L_law_84, ca_L_law_88, ca_L_law_91, ca_L_law_99, ca_L_law_103, ca_L_law_106, ca_L_law_109, ca_L_law_112, ca_L_law_114, ca_L_law_118, ca_L_law_121, ca_L_law_126, ca_L_law_129, ca_L_law_135, ca_L_law_40, ca_L_law_139, ca_L_law_27, ca_L_law_23, ca_L_law_142, ab_wp0, ab_wps, ab_stp, ab_g, ab_st, ab_k2, ab_cl, ab_pop, ab_sz, ab_2, ab_ret, ab_f4, ab_tg, ab_I, ab_II, ab_A, ab_Rf, ab_VR, ab_IR, ab_VIR, ab_1, ab_LL, ab_DD, ab_ob, ab_pr, ab_qr, ab_ln, ab_so, ab_vI, ab_vA, ab_vD, ab_vL, ab_v2, ab_c, ab_fit, ab_rv, ab_tsw, ab_lsw, ab_up_eq, Fin.isValue, ab_f0, ab_f1, ab_f2, ab_f3, List.getElem?_cons_zero, List.getElem?_cons_succ, List.set_cons_zero, List.set_cons_succ, List.length_cons, List.length_nil, List.size_toArray, List.head?_cons, List.tail_cons, Option.map_some, cond_true, cond_false, true_and, and_true, false_and, and_false, not_true_eq_false, not_false_eq_true, true_imp_iff, false_imp_iff, if_true, if_false, ite_true, ite_false, ↓reduceIte, Nat.reduceAdd, Nat.reduceEqDiff, Nat.reduceLeDiff, Nat.reduceLT, Nat.reduceBEq, Nat.reduceBNe, Int.reduceAdd, Int.reduceNeg, Int.reduceSub, Int.reduceLE, Int.reduceLT, Int.reduceToNat, Int.reduceEq, Int.reduceMul, Int.cast_ofNat_Int, Nat.zero_add, Nat.add_zero, Nat.le_refl, eq_self, ne_eq, reduceCtorEq, or_true, true_or, or_false, false_or, Bool.or_true, Bool.or_false, Bool.true_or, Bool.false_or, Nat.zero_le, Int.le_refl, Int.ofNat_zero, Int.ofNat_one, Bool.false_eq_true]
  try simp only [ab_in]
  (repeat' (first | intro _ | refine And.intro ?_ ?_)) <;> (first | exact aft _ _ _ (by assumption) (by assumption) | exact rfl | contradiction | omega | (exfalso; omega))
set_option maxRecDepth 100000 in
set_option maxHeartbeats 4000000 in
theorem law_d5 {base : Nat} {V : AVt} {h : AH} {r s b nb g n g2 q : Nat} {fb Rr dd : Int → Int} {F : Int → Int → Int} {A : SA} {S O : RS} {fc : Int → Int} {T : TS} {N : SN} {M Mg : SM} {k z : Nat} (hV : lwHv base V) (hkz : k ≤ 90000 ∧ z ≤ 900000) (hs : LwS h r s A S O fc T N M Mg b nb fb g n F g2 Rr q dd) (hT : TabR T Mg) (hday : S.day < 1000000) {tm x4 v9 v10 v11 v12 : Int} {w12 w13 w14 w15 w16 w17 w18 w19 w20 w21 w22 : Option AV}
    (hE : ∀ h' O' fc', LwS h' r s A S O' fc' T N M Mg b nb fb g n F g2 Rr q dd → V 310 [some (.inr (.inl (some b))), some (.inr (.inl (some r))), some (.inr (.inl (some s))), some (.inl (tm)), some (.inl (x4)), some (.inl ((n : Int))), some (.inr (.inl (some g))), some (.inr (.inl (some g2))), some (.inr (.inl (some q))), some (.inl (v9)), some (.inl (v10)), some (.inl (v11)), some (.inl ((onS (passS Mg) 1))), w13, w14, w15, w16, w17, w18, w19, w20, w21, w22] [] h' k z) : V 302 [some (.inr (.inl (some b))), some (.inr (.inl (some r))), some (.inr (.inl (some s))), some (.inl (tm)), some (.inl (x4)), some (.inl ((n : Int))), some (.inr (.inl (some g))), some (.inr (.inl (some g2))), some (.inr (.inl (some q))), some (.inl (v9)), some (.inl (v10)), some (.inl (v11)), w12, w13, w14, w15, w16, w17, w18, w19, w20, w21, w22] [] h k z := by
  obtain ⟨hA, hB, hsc, hwas, hro, hdj⟩ := id hs.1
  have E := hA.1
  have DO := hA.2.2.1
  dsimp only at E DO
  have hRO := (roof_el DO).1
  have hrg := sr_of hA
  have hqc := hs.2.2.1
  have hf := fore_f (fc := fc) hs.2.1 hT hRO hday
  have aft : ∀ h2 O2 fc2, ab_sr h2 r = some (A, (S, O2, fc2, T)) → ab_fr h h2 ((A.2.1.1 :: A.2.1.2) ++ [A.2.2.1.1, A.2.2.1.2]) → V 308 [some (.inr (.inl (some b))), some (.inr (.inl (some r))), some (.inr (.inl (some s))), some (.inl (tm)), some (.inl (x4)), some (.inl ((n : Int))), some (.inr (.inl (some g))), some (.inr (.inl (some g2))), some (.inr (.inl (some q))), some (.inl (v9)), some (.inl (v10)), some (.inl (v11)), w12, w13, w14, w15, w16, w17, w18, w19, w20, w21, w22] [.inl (onS (passS Mg) 1)] h2 k z := by
    intro h2 O2 fc2 w1 w2
    have i0 := hE h2 O2 fc2 (ls_cls hs w1 w2 (in_app (in_trial r A) (in_cov r A)) hs.2.1)
    clear hA hB hsc hwas hro hdj hs hE
    refine hV (fun p => p == 310) 80 _ _ _ _ _ _ ?_
    simp only [bI_in, bI_0, bI_1, bI_t, bI_f, bI_01, ae_istore, dL_law_308, ca_L_law_75, ca_L_law_76, ca_L_law_34, ca_L_law_80, ca_L_law_84, ca_L_law_88, ca_L_law_91, ca_L_law_99, ca_L_law_103, ca_L_law_106, ca_L_law_109, ca_L_law_112, ca_L_law_114, ca_L_law_118, ca_L_law_121, ca_L_law_126, ca_L_law_129, ca_L_law_135, ca_L_law_40, ca_L_law_139, ca_L_law_27, ca_L_law_23, ca_L_law_142, ab_wp0, ab_wps, ab_stp, ab_g, ab_st, ab_k2, ab_cl, ab_pop, ab_sz, ab_2, ab_ret, ab_f4, ab_tg, ab_I, ab_II, ab_A, ab_Rf, ab_VR, ab_IR, ab_VIR, ab_1, ab_LL, ab_DD, ab_ob, ab_pr, ab_qr, ab_ln, ab_so, ab_vI, ab_vA, ab_vD, ab_vL, ab_v2, ab_c, ab_fit, ab_rv, ab_tsw, ab_lsw, ab_up_eq, Fin.isValue, ab_f0, ab_f1, ab_f2, ab_f3, List.getElem?_cons_zero, List.getElem?_cons_succ, List.set_cons_zero, List.set_cons_succ, List.length_cons, List.length_nil, List.size_toArray, List.head?_cons, List.tail_cons, Option.map_some, cond_true, cond_false, true_and, and_true, false_and, and_false, not_true_eq_false, not_false_eq_true, true_imp_iff, false_imp_iff, if_true, if_false, ite_true, ite_false, ↓reduceIte, Nat.reduceAdd, Nat.reduceEqDiff, Nat.reduceLeDiff, Nat.reduceLT, Nat.reduceBEq, Nat.reduceBNe, Int.reduceAdd, Int.reduceNeg, Int.reduceSub, Int.reduceLE, Int.reduceLT, Int.reduceToNat, Int.reduceEq, Int.reduceMul, Int.cast_ofNat_Int, Nat.zero_add, Nat.add_zero, Nat.le_refl, eq_self, ne_eq, reduceCtorEq, or_true, true_or, or_false, false_or, Bool.or_true, Bool.or_false, Bool.true_or, Bool.false_or, Nat.zero_le, Int.le_refl, Int.ofNat_zero, Int.ofNat_one, Bool.false_eq_true]
    try simp only [ab_in]
    (repeat' (first | intro _ | refine And.intro ?_ ?_)) <;> (first | exact i0 | contradiction | omega | (exfalso; omega))
  clear hA hB hsc hwas hro hdj hs hE
  refine hV (fun p => p == 308) 80 _ _ _ _ _ _ ?_
  simp only [E, hrg, hf.1, hf.2.1, hf.2.2, bI_in, bI_0, bI_1, bI_t, bI_f, bI_01, Tr_X3_foresee, ae_aload_n, ae_iconst, ae_invokevirtual, dL_law_302, dL_law_303, dL_law_304, dL_law_305, ca_L_law_75, ca_L_law_76, ca_L_law_34, ca_L_law_80, ca_L_law_84, ca_L_law_88, ca_L_law_91, ca_L_law_99, ca_L_law_103, ca_L_law_106, ca_L_law_109, ca_L_law_112, ca_L_law_114, ca_L_law_118, ca_L_law_121, ca_L_law_126, ca_L_law_129, ca_L_law_135, ca_L_law_40, ca_L_law_139, ca_L_law_27, ca_L_law_23, ca_L_law_142, ab_wp0, ab_wps, ab_stp, ab_g, ab_st, ab_k2, ab_cl, ab_pop, ab_sz, ab_2, ab_ret, ab_f4, ab_tg, ab_I, ab_II, ab_A, ab_Rf, ab_VR, ab_IR, ab_VIR, ab_1, ab_LL, ab_DD, ab_ob, ab_pr, ab_qr, ab_ln, ab_so, ab_vI, ab_vA, ab_vD, ab_vL, ab_v2, ab_c, ab_fit, ab_rv, ab_tsw, ab_lsw, ab_up_eq, Fin.isValue, ab_f0, ab_f1, ab_f2, ab_f3, List.getElem?_cons_zero, List.getElem?_cons_succ, List.set_cons_zero, List.set_cons_succ, List.length_cons, List.length_nil, List.size_toArray, List.head?_cons, List.tail_cons, Option.map_some, cond_true, cond_false, true_and, and_true, false_and, and_false, not_true_eq_false, not_false_eq_true, true_imp_iff, false_imp_iff, if_true, if_false, ite_true, ite_false, ↓reduceIte, Nat.reduceAdd, Nat.reduceEqDiff, Nat.reduceLeDiff, Nat.reduceLT, Nat.reduceBEq, Nat.reduceBNe, Int.reduceAdd, Int.reduceNeg, Int.reduceSub, Int.reduceLE, Int.reduceLT, Int.reduceToNat, Int.reduceEq, Int.reduceMul, Int.cast_ofNat_Int, Nat.zero_add, Nat.add_zero, Nat.le_refl, eq_self, ne_eq, reduceCtorEq, or_true, true_or, or_false, false_or, Bool.or_true, Bool.or_false, Bool.true_or, Bool.false_or, Nat.zero_le, Int.le_refl, Int.ofNat_zero, Int.ofNat_one, Bool.false_eq_true]
  try simp only [ab_in]
  (repeat' (first | intro _ | refine And.intro ?_ ?_)) <;> (first | exact aft _ _ _ (by assumption) (by assumption) | exact rfl | contradiction | omega | (exfalso; omega))
set_option maxRecDepth 100000 in
set_option maxHeartbeats 4000000 in
theorem law_d6 {base : Nat} {V : AVt} {h : AH} {r s b nb g n g2 q : Nat} {fb Rr dd : Int → Int} {F : Int → Int → Int} {A : SA} {S O : RS} {fc : Int → Int} {T : TS} {N : SN} {M Mg : SM} {k z : Nat} (hV : lwHv base V) (hkz : k ≤ 90000 ∧ z ≤ 900000) (hs : LwS h r s A S O fc T N M Mg b nb fb g n F g2 Rr q dd) (hT : TabR T Mg) (hday : S.day < 1000000) {tm x4 v9 v10 v11 v12 : Int} {w13 w14 w15 w16 w17 w18 w19 w20 w21 w22 : Option AV}
    (hE : ∀ h' O' fc', LwS h' r s A S O' fc' T N M Mg b nb fb g n F g2 Rr q dd → V 318 [some (.inr (.inl (some b))), some (.inr (.inl (some r))), some (.inr (.inl (some s))), some (.inl (tm)), some (.inl (x4)), some (.inl ((n : Int))), some (.inr (.inl (some g))), some (.inr (.inl (some g2))), some (.inr (.inl (some q))), some (.inl (v9)), some (.inl (v10)), some (.inl (v11)), some (.inl (v12)), some (.inl ((rotS (passS Mg)))), w14, w15, w16, w17, w18, w19, w20, w21, w22] [] h' k z) : V 310 [some (.inr (.inl (some b))), some (.inr (.inl (some r))), some (.inr (.inl (some s))), some (.inl (tm)), some (.inl (x4)), some (.inl ((n : Int))), some (.inr (.inl (some g))), some (.inr (.inl (some g2))), some (.inr (.inl (some q))), some (.inl (v9)), some (.inl (v10)), some (.inl (v11)), some (.inl (v12)), w13, w14, w15, w16, w17, w18, w19, w20, w21, w22] [] h k z := by
  obtain ⟨hA, hB, hsc, hwas, hro, hdj⟩ := id hs.1
  have E := hA.1
  have DO := hA.2.2.1
  dsimp only at E DO
  have hRO := (roof_el DO).1
  have hrg := sr_of hA
  have hqc := hs.2.2.1
  have hf := fore_f (fc := fc) hs.2.1 hT hRO hday
  have aft : ∀ h2 O2 fc2, ab_sr h2 r = some (A, (S, O2, fc2, T)) → ab_fr h h2 ((A.2.1.1 :: A.2.1.2) ++ [A.2.2.1.1, A.2.2.1.2]) → V 316 [some (.inr (.inl (some b))), some (.inr (.inl (some r))), some (.inr (.inl (some s))), some (.inl (tm)), some (.inl (x4)), some (.inl ((n : Int))), some (.inr (.inl (some g))), some (.inr (.inl (some g2))), some (.inr (.inl (some q))), some (.inl (v9)), some (.inl (v10)), some (.inl (v11)), some (.inl (v12)), w13, w14, w15, w16, w17, w18, w19, w20, w21, w22] [.inl (rotS (passS Mg))] h2 k z := by
    intro h2 O2 fc2 w1 w2
    have i0 := hE h2 O2 fc2 (ls_cls hs w1 w2 (in_app (in_trial r A) (in_cov r A)) hs.2.1)
    clear hA hB hsc hwas hro hdj hs hE
    refine hV (fun p => p == 318) 80 _ _ _ _ _ _ ?_
    simp only [bI_in, bI_0, bI_1, bI_t, bI_f, bI_01, ae_istore, dL_law_316, ca_L_law_75, ca_L_law_76, ca_L_law_34, ca_L_law_80, ca_L_law_84, ca_L_law_88, ca_L_law_91, ca_L_law_99, ca_L_law_103, ca_L_law_106, ca_L_law_109, ca_L_law_112, ca_L_law_114, ca_L_law_118, ca_L_law_121, ca_L_law_126, ca_L_law_129, ca_L_law_135, ca_L_law_40, ca_L_law_139, ca_L_law_27, ca_L_law_23, ca_L_law_142, ab_wp0, ab_wps, ab_stp, ab_g, ab_st, ab_k2, ab_cl, ab_pop, ab_sz, ab_2, ab_ret, ab_f4, ab_tg, ab_I, ab_II, ab_A, ab_Rf, ab_VR, ab_IR, ab_VIR, ab_1, ab_LL, ab_DD, ab_ob, ab_pr, ab_qr, ab_ln, ab_so, ab_vI, ab_vA, ab_vD, ab_vL, ab_v2, ab_c, ab_fit, ab_rv, ab_tsw, ab_lsw, ab_up_eq, Fin.isValue, ab_f0, ab_f1, ab_f2, ab_f3, List.getElem?_cons_zero, List.getElem?_cons_succ, List.set_cons_zero, List.set_cons_succ, List.length_cons, List.length_nil, List.size_toArray, List.head?_cons, List.tail_cons, Option.map_some, cond_true, cond_false, true_and, and_true, false_and, and_false, not_true_eq_false, not_false_eq_true, true_imp_iff, false_imp_iff, if_true, if_false, ite_true, ite_false, ↓reduceIte, Nat.reduceAdd, Nat.reduceEqDiff, Nat.reduceLeDiff, Nat.reduceLT, Nat.reduceBEq, Nat.reduceBNe, Int.reduceAdd, Int.reduceNeg, Int.reduceSub, Int.reduceLE, Int.reduceLT, Int.reduceToNat, Int.reduceEq, Int.reduceMul, Int.cast_ofNat_Int, Nat.zero_add, Nat.add_zero, Nat.le_refl, eq_self, ne_eq, reduceCtorEq, or_true, true_or, or_false, false_or, Bool.or_true, Bool.or_false, Bool.true_or, Bool.false_or, Nat.zero_le, Int.le_refl, Int.ofNat_zero, Int.ofNat_one, Bool.false_eq_true]
    try simp only [ab_in]
    (repeat' (first | intro _ | refine And.intro ?_ ?_)) <;> (first | exact i0 | contradiction | omega | (exfalso; omega))
  clear hA hB hsc hwas hro hdj hs hE
  refine hV (fun p => p == 316) 80 _ _ _ _ _ _ ?_
  simp only [E, hrg, hf.1, hf.2.1, hf.2.2, bI_in, bI_0, bI_1, bI_t, bI_f, bI_01, Tr_X3_foresee, ae_aload_n, ae_iconst, ae_invokevirtual, dL_law_310, dL_law_311, dL_law_312, dL_law_313, ca_L_law_75, ca_L_law_76, ca_L_law_34, ca_L_law_80, ca_L_law_84, ca_L_law_88, ca_L_law_91, ca_L_law_99, ca_L_law_103, ca_L_law_106, ca_L_law_109, ca_L_law_112, ca_L_law_114, ca_L_law_118, ca_L_law_121, ca_L_law_126, ca_L_law_129, ca_L_law_135, ca_L_law_40, ca_L_law_139, ca_L_law_27, ca_L_law_23, ca_L_law_142, ab_wp0, ab_wps, ab_stp, ab_g, ab_st, ab_k2, ab_cl, ab_pop, ab_sz, ab_2, ab_ret, ab_f4, ab_tg, ab_I, ab_II, ab_A, ab_Rf, ab_VR, ab_IR, ab_VIR, ab_1, ab_LL, ab_DD, ab_ob, ab_pr, ab_qr, ab_ln, ab_so, ab_vI, ab_vA, ab_vD, ab_vL, ab_v2, ab_c, ab_fit, ab_rv, ab_tsw, ab_lsw, ab_up_eq, Fin.isValue, ab_f0, ab_f1, ab_f2, ab_f3, List.getElem?_cons_zero, List.getElem?_cons_succ, List.set_cons_zero, List.set_cons_succ, List.length_cons, List.length_nil, List.size_toArray, List.head?_cons, List.tail_cons, Option.map_some, cond_true, cond_false, true_and, and_true, false_and, and_false, not_true_eq_false, not_false_eq_true, true_imp_iff, false_imp_iff, if_true, if_false, ite_true, ite_false, ↓reduceIte, Nat.reduceAdd, Nat.reduceEqDiff, Nat.reduceLeDiff, Nat.reduceLT, Nat.reduceBEq, Nat.reduceBNe, Int.reduceAdd, Int.reduceNeg, Int.reduceSub, Int.reduceLE, Int.reduceLT, Int.reduceToNat, Int.reduceEq, Int.reduceMul, Int.cast_ofNat_Int, Nat.zero_add, Nat.add_zero, Nat.le_refl, eq_self, ne_eq, reduceCtorEq, or_true, true_or, or_false, false_or, Bool.or_true, Bool.or_false, Bool.true_or, Bool.false_or, Nat.zero_le, Int.le_refl, Int.ofNat_zero, Int.ofNat_one, Bool.false_eq_true]
  try simp only [ab_in]
  (repeat' (first | intro _ | refine And.intro ?_ ?_)) <;> (first | exact aft _ _ _ (by assumption) (by assumption) | exact rfl | contradiction | omega | (exfalso; omega))
set_option maxRecDepth 100000 in
set_option maxHeartbeats 4000000 in
theorem law_d7 {base : Nat} {V : AVt} {h : AH} {r s b nb g n g2 q : Nat} {fb Rr dd : Int → Int} {F : Int → Int → Int} {A : SA} {S O : RS} {fc : Int → Int} {T : TS} {N : SN} {M Mg : SM} {k z : Nat} (hV : lwHv base V) (hkz : k ≤ 90000 ∧ z ≤ 900000) (hs : LwS h r s A S O fc T N M Mg b nb fb g n F g2 Rr q dd) (hT : TabR T Mg) (hmd : Mg.dy (Mg.day % 7) = dd) {tm x4 v9 v10 v11 v12 v13 : Int} {w14 w15 w16 w17 w18 w19 w20 w21 w22 : Option AV} (htm : Mg.day = tm ∧ 0 ≤ tm ∧ tm ≤ 1000) (h9 : v9 = (stormS Mg (dd 0) (dd 1)).tk - Mg.tk) (hvr : -1000000 ≤ v9 ∧ v9 ≤ 1000000) (h11 : v11 = onS (passS Mg) 0) (h12 : v12 = onS (passS Mg) 1) (h13 : v13 = rotS (passS Mg)) (hvr2 : (0 ≤ v11 ∧ v11 ≤ 1000) ∧ (0 ≤ v12 ∧ v12 ≤ 1000) ∧ (0 ≤ v13 ∧ v13 ≤ 1000))
    (hE : ∀ h' S' fc', LwS h' r s A S' O fc' T N M (passS Mg) b nb fb g n F g2 Rr q dd → V 372 [some (.inr (.inl (some b))), some (.inr (.inl (some r))), some (.inr (.inl (some s))), some (.inl (tm)), some (.inl (x4)), some (.inl ((n : Int))), some (.inr (.inl (some g))), some (.inr (.inl (some g2))), some (.inr (.inl (some q))), some (.inl (v9)), some (.inl (v10)), some (.inl (v11)), some (.inl (v12)), some (.inl (v13)), w14, w15, w16, w17, w18, w19, w20, w21, w22] [] h' k z) : V 318 [some (.inr (.inl (some b))), some (.inr (.inl (some r))), some (.inr (.inl (some s))), some (.inl (tm)), some (.inl (x4)), some (.inl ((n : Int))), some (.inr (.inl (some g))), some (.inr (.inl (some g2))), some (.inr (.inl (some q))), some (.inl (v9)), some (.inl (v10)), some (.inl (v11)), some (.inl (v12)), some (.inl (v13)), w14, w15, w16, w17, w18, w19, w20, w21, w22] [] h k z := by
  obtain ⟨hA, hB, hsc, hwas, hro, hdj⟩ := id hs.1
  have E := hA.1
  have DO := hA.2.2.1
  dsimp only at E DO
  have hRO := (roof_el DO).1
  have hrg := sr_of hA
  have hqc := hs.2.2.1
  have hsd : S.day = tm := by have := hs.2.1.2.2.2.2.2.1; omega
  have hgp := good_pass hs.2.1 hT fc (by omega)
  have etk : (goL T 1 (fc, S)).2.blown - S.blown = v9 := by
    have e1 : (passS Mg).tk = (goL T 1 (fc, S)).2.blown := hgp.2.2.2.2.2.2
    have e2 : (passS Mg).tk = (stormS Mg (dd 0) (dd 1)).tk := by rw [← hmd]; rfl
    have e3 : Mg.tk = S.blown := hs.2.1.2.2.2.2.2.2
    show (goL T 1 (fc, S)).2.blown - S.blown = v9
    omega
  have aft : ∀ h2, ab_sr h2 r = some (A, ((goL T 1 (fc, S)).2, O, (goL T 1 (fc, S)).1, T)) → ab_fr h h2 ((A.1.1 :: A.1.2) ++ [A.2.2.1.1, A.2.2.1.2]) → V 323 [some (.inr (.inl (some b))), some (.inr (.inl (some r))), some (.inr (.inl (some s))), some (.inl (tm)), some (.inl (x4)), some (.inl ((n : Int))), some (.inr (.inl (some g))), some (.inr (.inl (some g2))), some (.inr (.inl (some q))), some (.inl (v9)), some (.inl (v10)), some (.inl (v11)), some (.inl (v12)), some (.inl (v13)), w14, w15, w16, w17, w18, w19, w20, w21, w22] [.inl v9] h2 k z := by
    intro h2 w1 w2
    have hl := ls_cls hs w1 w2 (in_app (in_roof r A) (in_cov r A)) hgp
    have i0 := hE h2 _ _ hl
    have hl2 := hl.1.1
    have E2 := hl2.1
    dsimp only at E2
    have y2 : countF (goL T 1 (fc, S)).2 2 = v11 := by rw [h11]; exact on_eq hgp.2.1 hgp.2.2
    have y3 : countF (goL T 1 (fc, S)).2 3 = v12 := by rw [h12]; exact crk_eq hgp.2.2
    have y6 : countF (goL T 1 (fc, S)).2 6 = v13 := by rw [h13]; exact rot_eq hgp.2.2
    have y0 : countF (goL T 1 (fc, S)).2 0 = tm + 1 := by
      have e1 : (passS Mg).day = (goL T 1 (fc, S)).2.day := hgp.2.2.2.2.2.1
      have e2 : (passS Mg).day = Mg.day + 1 := by
        have : (passS Mg).day = (stormS Mg (Mg.dy (Mg.day % 7) 0) (Mg.dy (Mg.day % 7) 1)).day + 1 := rfl
        rw [this, (stormS_o _ _ _).2.2.2]
      show (goL T 1 (fc, S)).2.day = tm + 1
      omega
    clear hl hl2 hgp h9 h11 h12 h13 etk
    clear hA hB hsc hwas hro hdj hs hE
    refine hV (fun p => bif p == 370 then true else p == 372) 80 _ _ _ _ _ _ ?_
    simp only [E2, w1, y0, y2, y3, y6, bI_in, bI_0, bI_1, bI_t, bI_f, bI_01, Tr_X3_count, ae_aload_n, ae_bipush, ae_iadd, ae_iconst, ae_if_icmp, ae_iload, ae_iload_n, ae_invokevirtual, dL_law_323, dL_law_325, dL_law_328, dL_law_329, dL_law_330, dL_law_333, dL_law_335, dL_law_338, dL_law_339, dL_law_340, dL_law_343, dL_law_345, dL_law_348, dL_law_349, dL_law_351, dL_law_354, dL_law_356, dL_law_359, dL_law_360, dL_law_361, dL_law_364, dL_law_365, dL_law_366, dL_law_367, ca_L_law_75, ca_L_law_76, ca_L_law_34, ca_L_law_80, ca_L_law_84, ca_L_law_88, ca_L_law_91, ca_L_law_99, ca_L_law_103, ca_L_law_106, ca_L_law_109, ca_L_law_112, ca_L_law_114, ca_L_law_118, ca_L_law_121, ca_L_law_126, ca_L_law_129, ca_L_law_135, ca_L_law_40, ca_L_law_139, ca_L_law_27, ca_L_law_23, ca_L_law_142, ab_wp0, ab_wps, ab_stp, ab_g, ab_st, ab_k2, ab_cl, ab_pop, ab_sz, ab_2, ab_ret, ab_f4, ab_tg, ab_I, ab_II, ab_A, ab_Rf, ab_VR, ab_IR, ab_VIR, ab_1, ab_LL, ab_DD, ab_ob, ab_pr, ab_qr, ab_ln, ab_so, ab_vI, ab_vA, ab_vD, ab_vL, ab_v2, ab_c, ab_fit, ab_rv, ab_tsw, ab_lsw, ab_up_eq, Fin.isValue, ab_f0, ab_f1, ab_f2, ab_f3, List.getElem?_cons_zero, List.getElem?_cons_succ, List.set_cons_zero, List.set_cons_succ, List.length_cons, List.length_nil, List.size_toArray, List.head?_cons, List.tail_cons, Option.map_some, cond_true, cond_false, true_and, and_true, false_and, and_false, not_true_eq_false, not_false_eq_true, true_imp_iff, false_imp_iff, if_true, if_false, ite_true, ite_false, ↓reduceIte, Nat.reduceAdd, Nat.reduceEqDiff, Nat.reduceLeDiff, Nat.reduceLT, Nat.reduceBEq, Nat.reduceBNe, Int.reduceAdd, Int.reduceNeg, Int.reduceSub, Int.reduceLE, Int.reduceLT, Int.reduceToNat, Int.reduceEq, Int.reduceMul, Int.cast_ofNat_Int, Nat.zero_add, Nat.add_zero, Nat.le_refl, eq_self, ne_eq, reduceCtorEq, or_true, true_or, or_false, false_or, Bool.or_true, Bool.or_false, Bool.true_or, Bool.false_or, Nat.zero_le, Int.le_refl, Int.ofNat_zero, Int.ofNat_one, Bool.false_eq_true]
    try simp only [ab_in]
    (repeat' (first | intro _ | refine And.intro ?_ ?_)) <;> (first | exact i0 | exact rfl | contradiction | omega | (exfalso; omega))
  clear hgp h9 h11 h12 h13 hT
  clear hA hB hsc hwas hro hdj hs hE
  refine hV (fun p => p == 323) 80 _ _ _ _ _ _ ?_
  simp only [E, hrg, hsd, etk, bI_in, bI_0, bI_1, bI_t, bI_f, bI_01, Tr_X3_pass, ae_aload_n, ae_iconst, ae_invokevirtual, dL_law_318, dL_law_319, dL_law_320, ca_L_law_75, ca_L_law_76, ca_L_law_34, ca_L_law_80, ca_L_law_84, ca_L_law_88, ca_L_law_91, ca_L_law_99, ca_L_law_103, ca_L_law_106, ca_L_law_109, ca_L_law_112, ca_L_law_114, ca_L_law_118, ca_L_law_121, ca_L_law_126, ca_L_law_129, ca_L_law_135, ca_L_law_40, ca_L_law_139, ca_L_law_27, ca_L_law_23, ca_L_law_142, ab_wp0, ab_wps, ab_stp, ab_g, ab_st, ab_k2, ab_cl, ab_pop, ab_sz, ab_2, ab_ret, ab_f4, ab_tg, ab_I, ab_II, ab_A, ab_Rf, ab_VR, ab_IR, ab_VIR, ab_1, ab_LL, ab_DD, ab_ob, ab_pr, ab_qr, ab_ln, ab_so, ab_vI, ab_vA, ab_vD, ab_vL, ab_v2, ab_c, ab_fit, ab_rv, ab_tsw, ab_lsw, ab_up_eq, Fin.isValue, ab_f0, ab_f1, ab_f2, ab_f3, List.getElem?_cons_zero, List.getElem?_cons_succ, List.set_cons_zero, List.set_cons_succ, List.length_cons, List.length_nil, List.size_toArray, List.head?_cons, List.tail_cons, Option.map_some, cond_true, cond_false, true_and, and_true, false_and, and_false, not_true_eq_false, not_false_eq_true, true_imp_iff, false_imp_iff, if_true, if_false, ite_true, ite_false, ↓reduceIte, Nat.reduceAdd, Nat.reduceEqDiff, Nat.reduceLeDiff, Nat.reduceLT, Nat.reduceBEq, Nat.reduceBNe, Int.reduceAdd, Int.reduceNeg, Int.reduceSub, Int.reduceLE, Int.reduceLT, Int.reduceToNat, Int.reduceEq, Int.reduceMul, Int.cast_ofNat_Int, Nat.zero_add, Nat.add_zero, Nat.le_refl, eq_self, ne_eq, reduceCtorEq, or_true, true_or, or_false, false_or, Bool.or_true, Bool.or_false, Bool.true_or, Bool.false_or, Nat.zero_le, Int.le_refl, Int.ofNat_zero, Int.ofNat_one, Bool.false_eq_true]
  try simp only [ab_in]
  (repeat' (first | intro _ | refine And.intro ?_ ?_)) <;> (first | exact aft _ (by assumption) (by assumption) | exact rfl | contradiction | omega | (exfalso; omega))
