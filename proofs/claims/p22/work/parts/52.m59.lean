/-! ===== the law: all slates, all places ===== -/
/- -/
theorem told_i (M : SM) (k : Int) : toldS M k 0 = M.sl k 0 ∧ toldS M k 1 = M.sl k 1 ∧ toldS M k 2 = M.sl k 2 ∧ toldS M k 3 = M.sl k 3 ∧ toldS M k 4 = M.sl k 4 ∧ toldS M k 5 = M.sl k 5 ∧ toldS M k 6 = (if M.sl k 5 = 1 then holdS M (M.sl k) else 0) ∧ toldS M k 7 = (if M.sl k 5 = 1 then uponS M (M.sl k) else 0) := ⟨rfl, rfl, rfl, rfl, rfl, rfl, rfl, rfl⟩
/-- what the law asks of a slate behind a day holds -/
def DayOk (M M' : SM) (e0 e1 e2 : Int) : Prop := ∀ k, 0 ≤ k → k < (M.n : Int) → ((M'.sl k 0 = M.sl k 0 ∧ M'.sl k 1 = M.sl k 1 ∧ M'.sl k 2 = M.sl k 2 ∧ M'.sl k 3 = M.sl k 3) ∧ (M'.sl k 5 = 1 → M.sl k 5 = 1) ∧ M.sl k 4 ≤ M'.sl k 4 ∧ (M.sl k 5 = 1 → ¬ M'.sl k 5 = 1 → ¬ e0 = 0) ∧ (M.sl k 4 < M'.sl k 4 → M.sl k 3 + 3 < e2 ∧ M'.sl k 5 = 1) ∧ (M'.sl k 5 = 1 → 0 < e0 → liftS M' (M'.sl k) e0 e1 ≤ holdS M (M.sl k)))
def brS (M : SM) (n : Nat) : Int := sumR (fun k => if M.sl k 5 = 1 then M.sl k 4 else 0) n 0
def thS (M : SM) (n : Nat) : Int := sumR (fun k => bI (decide (M.sl k 5 = 1))) n 0
theorem th_r (M : SM) (n : Nat) : 0 ≤ thS M n ∧ thS M n ≤ n := sumR_rb n 0
theorem br_r {M : SM} (mb : MB M) (n : Nat) : 0 ≤ brS M n ∧ brS M n ≤ n := by
  have := sumR_r (f := fun k => if M.sl k 5 = 1 then M.sl k 4 else 0) (lo := 0) (hi := 1) (fun k => by
    have := slB_r (mb.1 k)
    show 0 ≤ (if M.sl k 5 = 1 then M.sl k 4 else 0) ∧ (if M.sl k 5 = 1 then M.sl k 4 else 0) ≤ 1
    split <;> omega) n 0
  unfold brS
  omega
theorem th_on (M : SM) : thS M M.n = onS M 0 := by
  unfold thS onS
  refine sumR_congrN _ (fun j _ _ => ?_)
  simp
theorem br_on {M : SM} (mb : MB M) : brS M M.n = onS M 1 := by
  unfold brS onS
  refine sumR_congrN _ (fun j _ _ => ?_)
  have := slB_r (mb.1 j)
  by_cases h5 : M.sl j 5 = 1
  · rw [if_pos h5]
    rcases (show M.sl j 4 = 0 ∨ M.sl j 4 = 1 by omega) with h4 | h4 <;> rw [h5, h4] <;> simp [bI]
  · rw [if_neg h5]; simp [h5, bI]
set_option maxRecDepth 100000 in
set_option maxHeartbeats 4000000 in
theorem law_kl {base : Nat} {V : AVt} {h : AH} {r s b nb g n g2 q : Nat} {fb Rr dd : Int → Int} {F : Int → Int → Int} {A : SA} {S O : RS} {fc : Int → Int} {T : TS} {N : SN} {M : SM} {k z : Nat} (hV : lwHv base V) (hkz : k ≤ 90000 ∧ z ≤ 900000) {M0 : SM} (hx : LX h r s A (S, O, fc, T) N M0 b nb fb g n F g2 Rr) (hW : Good S M) (mb0 : MB M0) (mb1 : MB M) (hqc : h q = some (.inr (.inl (0, 4, dd)))) {e0 e1 e2 : Int} (he0 : dd 0 = e0) (he1 : dd 1 = e1) (he2 : dd 2 = e2) (hr0 : 0 ≤ e0 ∧ e0 ≤ 20) (hr1 : e1 = 0 ∨ e1 = 1) (hr2 : 0 ≤ e2 ∧ e2 ≤ 9) {Mb : SM} (mbb : MB Mb) (hnb : Mb.n = M.n) (hn : n = M.n)
    (hF : ∀ kk w, 0 ≤ kk → kk < (n : Int) → 0 ≤ w → w ≤ 7 → F kk w = toldS Mb kk w) (hday : DayOk Mb M e0 e1 e2) {tm x4 v9 v10 v11 v12 v13 : Int}
    (hE : ∀ w17 w18 w19 w20 w21 w22, V 385 [some (.inr (.inl (some b))), some (.inr (.inl (some r))), some (.inr (.inl (some s))), some (.inl (tm)), some (.inl (x4)), some (.inl ((n : Int))), some (.inr (.inl (some g))), some (.inr (.inl (some g2))), some (.inr (.inl (some q))), some (.inl (v9)), some (.inl (v10)), some (.inl (v11)), some (.inl (v12)), some (.inl (v13)), some (.inl (thS M n)), some (.inl (brS M n)), some (.inl ((n : Int))), w17, w18, w19, w20, w21, w22] [] h k z) :
    ∀ (m kk : Nat) (w17 w18 w19 w20 w21 w22 : Option AV), kk + m = n → V 385 [some (.inr (.inl (some b))), some (.inr (.inl (some r))), some (.inr (.inl (some s))), some (.inl (tm)), some (.inl (x4)), some (.inl ((n : Int))), some (.inr (.inl (some g))), some (.inr (.inl (some g2))), some (.inr (.inl (some q))), some (.inl (v9)), some (.inl (v10)), some (.inl (v11)), some (.inl (v12)), some (.inl (v13)), some (.inl (thS M kk)), some (.inl (brS M kk)), some (.inl ((kk : Int))), w17, w18, w19, w20, w21, w22] [] h k z := by
  intro m
  induction m with
  | zero =>
    intro kk w17 w18 w19 w20 w21 w22 hk
    have e : kk = n := by omega
    subst e
    exact hE w17 w18 w19 w20 w21 w22
  | succ m ih =>
    intro kk w17 w18 w19 w20 w21 w22 hk
    have hen : (M.n : Int) = S.laid := hW.2.2.1
    have hn200 : M.n ≤ 200 := mb1.2.2.2.1
    obtain ⟨d0, d1, d2, d3, d4, d5⟩ := hday kk (by omega) (by omega)
    obtain ⟨t0, t1, t2, t3, t4, t5, t6, t7⟩ := told_i M kk
    obtain ⟨u0, u1, u2, u3, u4, u5, u6, u7⟩ := told_i Mb kk
    have r1 := slB_r (mb1.1 kk)
    have r2 := slB_r (mbb.1 kk)
    have h4 := toldS_r (k := (kk : Int)) (what := 6) mbb
    have hlr := liftS_r (right := e1) mb1 (mb1.1 kk) hr0
    have th0 := th_r M kk
    have br0 := br_r mb1 kk
    have hle : ∀ (hon : S.onr kk = 1), liftS M (M.sl kk) e0 e1 = liftF S kk e0 e1 := fun hon => lift_eq hW.1 hW.2.1 hW.2.2 (by omega) (by omega) hon
    have hone : M.sl kk 5 = S.onr kk := (hW.2.2.2.1 kk (by omega) (by omega)).2.2.2.2.2
    have hlf : -1000 ≤ liftF S kk e0 e1 ∧ liftF S kk e0 e1 ≤ 1000 := by
      have := numberAtF_r hW.1 0 0
      have hrw := hW.1.row_r kk
      unfold liftF
      cases isKnownF S kk
      · simp only [cond_false]; omega
      · simp only [cond_true]; split <;> omega
    refine law_k (M := M0) (F := F) hV hkz hx hW.2.1 hqc he0 he1 he2 hr0 hr1 hr2 (kk := kk) ⟨by omega, by omega⟩ (by omega) (t := toldS M kk) (u := toldS Mb kk) (fun w => told_eq hW.1 hW.2.1 hW.2.2 (by omega) (by omega) w) (fun w w0 w7 => hF kk w (by omega) (by omega) w0 w7) (fun w => ⟨toldS_r mb1, toldS_r mbb⟩) (by omega) (by omega)
      ⟨by omega, by omega, by omega, by omega⟩ (by rw [t5, u5]; exact d1) (by omega) (fun h5 => ⟨by rw [t6, if_neg (by omega)], by rw [t7, if_neg (by omega)]⟩) (by rw [t5, u5]; exact d3) (by rw [t4, u4, t5, u3]; exact d4) (fun h5 h0 => ?_) hlf (fun th' br' y17 y18 hth hbr => ?_)
    · have q5 : M.sl kk 5 = 1 := by omega
      have q := d5 q5 h0
      rw [hle (by omega)] at q
      rw [u6, if_pos (d1 q5)]
      exact q
    · have i0 := ih (kk + 1) y17 y18 w19 w20 w21 w22 (by omega)
      have e1 : thS M (kk + 1) = th' := by
        rw [hth, t5]
        unfold thS
        rw [sumR_last, Int.zero_add]
        by_cases q : M.sl kk 5 = 1
        · rw [if_pos q, decide_eq_true q]; rfl
        · rw [if_neg q, decide_eq_false q]; rfl
      have e2 : brS M (kk + 1) = br' := by
        rw [hbr, t5, t4]
        unfold brS
        rw [sumR_last, Int.zero_add]
      have e3 : ((kk + 1 : Nat) : Int) = (kk : Int) + 1 := by omega
      rw [e1, e2, e3] at i0
      clear ih hE hx hW hday hF
      refine hV (fun p => bif p == 385 then true else p == 743) 80 _ _ _ _ _ _ ?_
      simp only [bI_in, bI_0, bI_1, bI_t, bI_f, bI_01, ae_goto, ae_iinc, dL_law_737, dL_law_740, ca_L_law_75, ca_L_law_76, ca_L_law_34, ca_L_law_80, ca_L_law_84, ca_L_law_88, ca_L_law_91, ca_L_law_99, ca_L_law_103, ca_L_law_106, ca_L_law_109, ca_L_law_112, ca_L_law_114, ca_L_law_118, ca_L_law_121, ca_L_law_126, ca_L_law_129, ca_L_law_135, ca_L_law_40, ca_L_law_139, ca_L_law_27, ca_L_law_23, ca_L_law_142, ab_wp0, ab_wps, ab_stp, ab_g, ab_st, ab_k2, ab_cl, ab_pop, ab_sz, ab_2, ab_ret, ab_f4, ab_tg, ab_I, ab_II, ab_A, ab_Rf, ab_VR, ab_IR, ab_VIR, ab_1, ab_LL, ab_DD, ab_ob, ab_pr, ab_qr, ab_ln, ab_so, ab_vI, ab_vA, ab_vD, ab_vL, ab_v2, ab_c, ab_fit, ab_rv, ab_tsw, ab_lsw, ab_up_eq, Fin.isValue, ab_f0, ab_f1, ab_f2, ab_f3, List.getElem?_cons_zero, List.getElem?_cons_succ, List.set_cons_zero, List.set_cons_succ, List.length_cons, List.length_nil, List.size_toArray, List.head?_cons, List.tail_cons, Option.map_some, cond_true, cond_false, true_and, and_true, false_and, and_false, not_true_eq_false, not_false_eq_true, true_imp_iff, false_imp_iff, if_true, if_false, ite_true, ite_false, ↓reduceIte, Nat.reduceAdd, Nat.reduceEqDiff, Nat.reduceLeDiff, Nat.reduceLT, Nat.reduceBEq, Nat.reduceBNe, Int.reduceAdd, Int.reduceNeg, Int.reduceSub, Int.reduceLE, Int.reduceLT, Int.reduceToNat, Int.reduceEq, Int.reduceMul, Int.cast_ofNat_Int, Nat.zero_add, Nat.add_zero, Nat.le_refl, eq_self, ne_eq, reduceCtorEq, or_true, true_or, or_false, false_or, Bool.or_true, Bool.or_false, Bool.true_or, Bool.false_or, Nat.zero_le, Int.le_refl, Int.ofNat_zero, Int.ofNat_one, Bool.false_eq_true]
      try simp only [ab_in]
      (repeat' (first | intro _ | refine And.intro ?_ ?_)) <;> (first | exact i0 | contradiction | omega | (exfalso; omega))
theorem comes_cov {M : SM} {rain x y : Int} (hy : 0 ≤ y ∧ y ≤ 7) (h : covS M x y = true) : comesS M rain x (7 - y).toNat = 0 := by
  by_cases e : y = 7
  · subst e
    show (bif covS M x 7 then 0 else rain) = 0
    rw [h]; rfl
  · obtain ⟨d, hd⟩ : ∃ d : Nat, (7 - y).toNat = d + 1 := ⟨(6 - y).toNat, by omega⟩
    rw [hd]
    simp only [comesS]
    rw [show 7 - ((d + 1 : Nat) : Int) = y by omega, h]; rfl
theorem comes_nc {M : SM} {rain x y : Int} (hy : 0 ≤ y ∧ y ≤ 7) (h : covS M x y = false) : comesS M rain x (7 - y).toNat = rain + (if y = 7 then 0 else Int.tdiv (comesS M rain x (7 - (y + 1)).toNat) 2) := by
  by_cases e : y = 7
  · subst e
    show (bif covS M x 7 then 0 else rain) = _
    rw [h, if_pos rfl]; simp
  · rw [if_neg e]
    obtain ⟨d, hd⟩ : ∃ d : Nat, (7 - y).toNat = d + 1 := ⟨(6 - y).toNat, by omega⟩
    rw [hd, show (7 - (y + 1)).toNat = d by omega]
    simp only [comesS]
    rw [show 7 - ((d + 1 : Nat) : Int) = y by omega, h]; rfl
def cvN (M : SM) (n : Nat) : Int := sumR (fun k => bI (covS M (k % 12) (k / 12))) n 0
def inN (M : SM) (rain : Int) (n : Nat) : Int := sumR (fun k => comesS M rain (k % 12) (7 - k / 12).toNat) n 0
theorem cvN_r (M : SM) (n : Nat) : 0 ≤ cvN M n ∧ cvN M n ≤ n := sumR_rb n 0
theorem inN_r (M : SM) {rain : Int} (h : 0 ≤ rain ∧ rain ≤ 9) (n : Nat) : 0 ≤ inN M rain n ∧ inN M rain n ≤ 18 * n := by
  have := sumR_r (f := fun k => comesS M rain (k % 12) (7 - k / 12).toNat) (lo := 0) (hi := 18) (fun k => comesS_r h _) n 0
  unfold inN
  omega
def RotOk (M : SM) (Rr : Int → Int) (rain : Int) : Prop := ∀ k, 0 ≤ k → k < 96 → (0 ≤ Rr k ∧ Rr k ≤ 9) ∧ M.rt (k % 12) (k / 12) = if Rr k + (if 6 ≤ comesS M rain (k % 12) (7 - k / 12).toNat then 1 else 0) < 9 then Rr k + (if 6 ≤ comesS M rain (k % 12) (7 - k / 12).toNat then 1 else 0) else 9
set_option maxRecDepth 100000 in
set_option maxHeartbeats 4000000 in
/-- the last of a place: rot as it was told -/
theorem law_p3 {base : Nat} {V : AVt} {h : AH} {r s b nb g n g2 q : Nat} {fb Rr : Int → Int} {F : Int → Int → Int} {A : SA} {S O : RS} {fc : Int → Int} {T : TS} {N : SN} {M : SM} {k z : Nat} (hV : lwHv base V) (hkz : k ≤ 90000 ∧ z ≤ 900000) (hx : LX h r s A (S, O, fc, T) N M b nb fb g n F g2 Rr) (hW : Good S M) {e3 : Int} (hr3 : 0 ≤ e3 ∧ e3 ≤ 9) (hrot : RotOk M Rr e3) {kk th br cv sm is tm x4 v9 v10 v11 v12 v13 : Int} (hkk : 0 ≤ kk ∧ kk < 96)
    (hE : V 918 [some (.inr (.inl (some b))), some (.inr (.inl (some r))), some (.inr (.inl (some s))), some (.inl (tm)), some (.inl (x4)), some (.inl ((n : Int))), some (.inr (.inl (some g))), some (.inr (.inl (some g2))), some (.inr (.inl (some q))), some (.inl (v9)), some (.inl (v10)), some (.inl (v11)), some (.inl (v12)), some (.inl (v13)), some (.inl (th)), some (.inl (br)), some (.inl (cv)), some (.inl (sm)), some (.inl (kk)), some (.inl (kk % 12)), some (.inl (kk / 12)), some (.inl (is)), some (.inl ((comesS M e3 (kk % 12) (7 - kk / 12).toNat)))] [] h k z) : V 881 [some (.inr (.inl (some b))), some (.inr (.inl (some r))), some (.inr (.inl (some s))), some (.inl (tm)), some (.inl (x4)), some (.inl ((n : Int))), some (.inr (.inl (some g))), some (.inr (.inl (some g2))), some (.inr (.inl (some q))), some (.inl (v9)), some (.inl (v10)), some (.inl (v11)), some (.inl (v12)), some (.inl (v13)), some (.inl (th)), some (.inl (br)), some (.inl (cv)), some (.inl (sm)), some (.inl (kk)), some (.inl (kk % 12)), some (.inl (kk / 12)), some (.inl (is)), some (.inl ((comesS M e3 (kk % 12) (7 - kk / 12).toNat)))] [] h k z := by
  obtain ⟨hA, hB, hsc, hwas, hro, hdj⟩ := id hx
  have E := hA.1
  dsimp only at E
  have hrg := sr_of hA
  obtain ⟨q1, q2⟩ := hrot kk hkk.1 hkk.2
  have q3 : placeF S (kk % 12) (kk / 12) 2 = M.rt (kk % 12) (kk / 12) := rt_eq hW.2.2 (by omega) (by omega)
  have hcr := comesS_r (M := M) (x := kk % 12) hr3 (7 - kk / 12).toNat
  clear hx hwas hdj hA hB hsc hrot hW
  generalize comesS M e3 (kk % 12) (7 - kk / 12).toNat = cc at *
  rw [q2] at q3
  clear q2
  by_cases h6 : 6 ≤ cc
  · simp only [h6, if_true] at q3
    have h6' : ¬ cc < 6 := by omega
    refine hV (fun p => bif p == 916 then true else p == 918) 80 _ _ _ _ _ _ ?_
    simp only [E, hrg, hro, q3, h6', bI_in, bI_0, bI_1, bI_t, bI_f, bI_01, Tr_X3_place, Tr_J9_min_7cf53, ae_aload, ae_aload_n, ae_bipush, ae_goto, ae_iadd, ae_iaload, ae_iconst, ae_if_icmp, ae_iload, ae_invokestatic, ae_invokevirtual, ae_ireturn, dL_law_881, dL_law_882, dL_law_884, dL_law_886, dL_law_887, dL_law_890, dL_law_892, dL_law_894, dL_law_896, dL_law_897, dL_law_899, dL_law_901, dL_law_904, dL_law_905, dL_law_908, dL_law_909, dL_law_910, dL_law_913, dL_law_916, dL_law_917, ca_L_law_75, ca_L_law_76, ca_L_law_34, ca_L_law_80, ca_L_law_84, ca_L_law_88, ca_L_law_91, ca_L_law_99, ca_L_law_103, ca_L_law_106, ca_L_law_109, ca_L_law_112, ca_L_law_114, ca_L_law_118, ca_L_law_121, ca_L_law_126, ca_L_law_129, ca_L_law_135, ca_L_law_40, ca_L_law_139, ca_L_law_27, ca_L_law_23, ca_L_law_142, ab_wp0, ab_wps, ab_stp, ab_g, ab_st, ab_k2, ab_cl, ab_pop, ab_sz, ab_2, ab_ret, ab_f4, ab_tg, ab_I, ab_II, ab_A, ab_Rf, ab_VR, ab_IR, ab_VIR, ab_1, ab_LL, ab_DD, ab_ob, ab_pr, ab_qr, ab_ln, ab_so, ab_vI, ab_vA, ab_vD, ab_vL, ab_v2, ab_c, ab_fit, ab_rv, ab_tsw, ab_lsw, ab_up_eq, Fin.isValue, ab_f0, ab_f1, ab_f2, ab_f3, List.getElem?_cons_zero, List.getElem?_cons_succ, List.set_cons_zero, List.set_cons_succ, List.length_cons, List.length_nil, List.size_toArray, List.head?_cons, List.tail_cons, Option.map_some, cond_true, cond_false, true_and, and_true, false_and, and_false, not_true_eq_false, not_false_eq_true, true_imp_iff, false_imp_iff, if_true, if_false, ite_true, ite_false, ↓reduceIte, Nat.reduceAdd, Nat.reduceEqDiff, Nat.reduceLeDiff, Nat.reduceLT, Nat.reduceBEq, Nat.reduceBNe, Int.reduceAdd, Int.reduceNeg, Int.reduceSub, Int.reduceLE, Int.reduceLT, Int.reduceToNat, Int.reduceEq, Int.reduceMul, Int.cast_ofNat_Int, Nat.zero_add, Nat.add_zero, Nat.le_refl, eq_self, ne_eq, reduceCtorEq, or_true, true_or, or_false, false_or, Bool.or_true, Bool.or_false, Bool.true_or, Bool.false_or, Nat.zero_le, Int.le_refl, Int.ofNat_zero, Int.ofNat_one, Bool.false_eq_true]
    try simp only [ab_in]
    (repeat' (first | intro _ | refine And.intro ?_ ?_)) <;> (first | exact hE | exact rfl | contradiction | omega | (exfalso; omega))
  · simp only [h6, if_false] at q3
    have h6' : cc < 6 := by omega
    refine hV (fun p => bif p == 916 then true else p == 918) 80 _ _ _ _ _ _ ?_
    simp only [E, hrg, hro, q3, h6', bI_in, bI_0, bI_1, bI_t, bI_f, bI_01, Tr_X3_place, Tr_J9_min_7cf53, ae_aload, ae_aload_n, ae_bipush, ae_goto, ae_iadd, ae_iaload, ae_iconst, ae_if_icmp, ae_iload, ae_invokestatic, ae_invokevirtual, ae_ireturn, dL_law_881, dL_law_882, dL_law_884, dL_law_886, dL_law_887, dL_law_890, dL_law_892, dL_law_894, dL_law_896, dL_law_897, dL_law_899, dL_law_901, dL_law_904, dL_law_905, dL_law_908, dL_law_909, dL_law_910, dL_law_913, dL_law_916, dL_law_917, ca_L_law_75, ca_L_law_76, ca_L_law_34, ca_L_law_80, ca_L_law_84, ca_L_law_88, ca_L_law_91, ca_L_law_99, ca_L_law_103, ca_L_law_106, ca_L_law_109, ca_L_law_112, ca_L_law_114, ca_L_law_118, ca_L_law_121, ca_L_law_126, ca_L_law_129, ca_L_law_135, ca_L_law_40, ca_L_law_139, ca_L_law_27, ca_L_law_23, ca_L_law_142, ab_wp0, ab_wps, ab_stp, ab_g, ab_st, ab_k2, ab_cl, ab_pop, ab_sz, ab_2, ab_ret, ab_f4, ab_tg, ab_I, ab_II, ab_A, ab_Rf, ab_VR, ab_IR, ab_VIR, ab_1, ab_LL, ab_DD, ab_ob, ab_pr, ab_qr, ab_ln, ab_so, ab_vI, ab_vA, ab_vD, ab_vL, ab_v2, ab_c, ab_fit, ab_rv, ab_tsw, ab_lsw, ab_up_eq, Fin.isValue, ab_f0, ab_f1, ab_f2, ab_f3, List.getElem?_cons_zero, List.getElem?_cons_succ, List.set_cons_zero, List.set_cons_succ, List.length_cons, List.length_nil, List.size_toArray, List.head?_cons, List.tail_cons, Option.map_some, cond_true, cond_false, true_and, and_true, false_and, and_false, not_true_eq_false, not_false_eq_true, true_imp_iff, false_imp_iff, if_true, if_false, ite_true, ite_false, ↓reduceIte, Nat.reduceAdd, Nat.reduceEqDiff, Nat.reduceLeDiff, Nat.reduceLT, Nat.reduceBEq, Nat.reduceBNe, Int.reduceAdd, Int.reduceNeg, Int.reduceSub, Int.reduceLE, Int.reduceLT, Int.reduceToNat, Int.reduceEq, Int.reduceMul, Int.cast_ofNat_Int, Nat.zero_add, Nat.add_zero, Nat.le_refl, eq_self, ne_eq, reduceCtorEq, or_true, true_or, or_false, false_or, Bool.or_true, Bool.or_false, Bool.true_or, Bool.false_or, Nat.zero_le, Int.le_refl, Int.ofNat_zero, Int.ofNat_one, Bool.false_eq_true]
    try simp only [ab_in]
    (repeat' (first | intro _ | refine And.intro ?_ ?_)) <;> (first | exact hE | exact rfl | contradiction | omega | (exfalso; omega))
set_option maxRecDepth 100000 in
set_option maxHeartbeats 4000000 in
theorem law_p2 {base : Nat} {V : AVt} {h : AH} {r s b nb g n g2 q : Nat} {fb Rr dd : Int → Int} {F : Int → Int → Int} {A : SA} {S O : RS} {fc : Int → Int} {T : TS} {N : SN} {M : SM} {k z : Nat} (hV : lwHv base V) (hkz : k ≤ 90000 ∧ z ≤ 900000) (hx : LX h r s A (S, O, fc, T) N M b nb fb g n F g2 Rr) (hW : Good S M) (hqc : h q = some (.inr (.inl (0, 4, dd)))) (hqx : ¬ q ∈ r :: srL A) {e3 : Int} (he3 : dd 3 = e3) (hr3 : 0 ≤ e3 ∧ e3 ≤ 9) (hrot : RotOk M Rr e3) {kk th br cv sm is tm x4 v9 v10 v11 v12 v13 : Int} (hkk : 0 ≤ kk ∧ kk < 96) (his : is = bI (covS M (kk % 12) (kk / 12)))
    (hcv : 0 ≤ cv ∧ cv ≤ 96) (hsm : 0 ≤ sm ∧ sm ≤ 2000)
    (hE : ∀ h' fc', LX h' r s A (S, O, fc', T) N M b nb fb g n F g2 Rr → h' q = h q → V 918 [some (.inr (.inl (some b))), some (.inr (.inl (some r))), some (.inr (.inl (some s))), some (.inl (tm)), some (.inl (x4)), some (.inl ((n : Int))), some (.inr (.inl (some g))), some (.inr (.inl (some g2))), some (.inr (.inl (some q))), some (.inl (v9)), some (.inl (v10)), some (.inl (v11)), some (.inl (v12)), some (.inl (v13)), some (.inl (th)), some (.inl (br)), some (.inl (cv + is)), some (.inl (sm + (comesS M e3 (kk % 12) (7 - kk / 12).toNat))), some (.inl (kk)), some (.inl (kk % 12)), some (.inl (kk / 12)), some (.inl (is)), some (.inl ((comesS M e3 (kk % 12) (7 - kk / 12).toNat)))] [] h' k z) : V 807 [some (.inr (.inl (some b))), some (.inr (.inl (some r))), some (.inr (.inl (some s))), some (.inl (tm)), some (.inl (x4)), some (.inl ((n : Int))), some (.inr (.inl (some g))), some (.inr (.inl (some g2))), some (.inr (.inl (some q))), some (.inl (v9)), some (.inl (v10)), some (.inl (v11)), some (.inl (v12)), some (.inl (v13)), some (.inl (th)), some (.inl (br)), some (.inl (cv)), some (.inl (sm)), some (.inl (kk)), some (.inl (kk % 12)), some (.inl (kk / 12)), some (.inl (is)), some (.inl ((comesS M e3 (kk % 12) (7 - kk / 12).toNat)))] [] h k z := by
  have hcr := comesS_r (M := M) (x := kk % 12) hr3 (7 - kk / 12).toNat
  cases hc : covS M (kk % 12) (kk / 12)
  · rw [hc, bI_f] at his
    subst his
    have e := comes_nc (M := M) (rain := e3) (x := kk % 12) (y := kk / 12) (by omega) hc
    by_cases h7 : kk / 12 = 7
    · rw [if_pos h7] at e
      have i0 := law_p3 hV hkz hx hW hr3 hrot (is := 0) (th := th) (br := br) (cv := cv + 0) (sm := sm + comesS M e3 (kk % 12) (7 - kk / 12).toNat) (tm := tm) (x4 := x4) (v9 := v9) (v10 := v10) (v11 := v11) (v12 := v12) (v13 := v13) hkk (hE h fc hx rfl)
      clear hE hx hW hrot
      generalize comesS M e3 (kk % 12) (7 - kk / 12).toNat = cc at *
      refine hV (fun p => bif p == 881 then true else bif p == 916 then true else p == 861) 80 _ _ _ _ _ _ ?_
      simp only [hqc, he3, bI_in, bI_0, bI_1, bI_t, bI_f, bI_01, ae_aload, ae_aload_n, ae_bipush, ae_goto, ae_iadd, ae_iaload, ae_iconst, ae_idiv, ae_ifCond, ae_if_icmp, ae_iload, ae_invokevirtual, ae_istore, dL_law_807, dL_law_809, dL_law_811, dL_law_814, dL_law_815, dL_law_818, dL_law_819, dL_law_820, dL_law_822, dL_law_824, dL_law_826, dL_law_827, dL_law_829, dL_law_831, dL_law_834, dL_law_836, dL_law_839, dL_law_841, dL_law_844, dL_law_846, dL_law_848, dL_law_849, dL_law_850, dL_law_852, dL_law_854, dL_law_857, dL_law_858, dL_law_861, dL_law_862, dL_law_864, dL_law_865, dL_law_866, dL_law_868, dL_law_870, dL_law_871, dL_law_872, dL_law_875, dL_law_876, dL_law_877, dL_law_878, ca_L_law_75, ca_L_law_76, ca_L_law_34, ca_L_law_80, ca_L_law_84, ca_L_law_88, ca_L_law_91, ca_L_law_99, ca_L_law_103, ca_L_law_106, ca_L_law_109, ca_L_law_112, ca_L_law_114, ca_L_law_118, ca_L_law_121, ca_L_law_126, ca_L_law_129, ca_L_law_135, ca_L_law_40, ca_L_law_139, ca_L_law_27, ca_L_law_23, ca_L_law_142, ab_wp0, ab_wps, ab_stp, ab_g, ab_st, ab_k2, ab_cl, ab_pop, ab_sz, ab_2, ab_ret, ab_f4, ab_tg, ab_I, ab_II, ab_A, ab_Rf, ab_VR, ab_IR, ab_VIR, ab_1, ab_LL, ab_DD, ab_ob, ab_pr, ab_qr, ab_ln, ab_so, ab_vI, ab_vA, ab_vD, ab_vL, ab_v2, ab_c, ab_fit, ab_rv, ab_tsw, ab_lsw, ab_up_eq, Fin.isValue, ab_f0, ab_f1, ab_f2, ab_f3, List.getElem?_cons_zero, List.getElem?_cons_succ, List.set_cons_zero, List.set_cons_succ, List.length_cons, List.length_nil, List.size_toArray, List.head?_cons, List.tail_cons, Option.map_some, cond_true, cond_false, true_and, and_true, false_and, and_false, not_true_eq_false, not_false_eq_true, true_imp_iff, false_imp_iff, if_true, if_false, ite_true, ite_false, ↓reduceIte, Nat.reduceAdd, Nat.reduceEqDiff, Nat.reduceLeDiff, Nat.reduceLT, Nat.reduceBEq, Nat.reduceBNe, Int.reduceAdd, Int.reduceNeg, Int.reduceSub, Int.reduceLE, Int.reduceLT, Int.reduceToNat, Int.reduceEq, Int.reduceMul, Int.cast_ofNat_Int, Nat.zero_add, Nat.add_zero, Nat.le_refl, eq_self, ne_eq, reduceCtorEq, or_true, true_or, or_false, false_or, Bool.or_true, Bool.or_false, Bool.true_or, Bool.false_or, Nat.zero_le, Int.le_refl, Int.ofNat_zero, Int.ofNat_one, Bool.false_eq_true]
      try simp only [ab_in]
      (repeat' (first | intro _ | refine And.intro ?_ ?_)) <;> (first | exact i0 | exact rfl | contradiction | omega | (exfalso; omega))
    · rw [if_neg h7] at e
      obtain ⟨hA, hB, hsc, hwas, hro, hdj⟩ := id hx
      have E := hA.1
      dsimp only at E
      have hrg := sr_of hA
      have hcm := comes_eq (f := fc) (rain := e3) hW.1 hW.2.1 hW.2.2 (x := kk % 12) (y := kk / 12 + 1) (by omega) (by omega)
      have hcr2 := comesS_r (M := M) (x := kk % 12) hr3 (7 - (kk / 12 + 1)).toNat
      have i0 := fun h2 fc2 w1 w2 => law_p3 (h := h2) (fc := fc2) hV hkz (lx_cls hx (sr_el w1) w2 (in_cov r A)) hW hr3 hrot (is := 0) (th := th) (br := br) (cv := cv + 0) (sm := sm + comesS M e3 (kk % 12) (7 - kk / 12).toNat) (tm := tm) (x4 := x4) (v9 := v9) (v10 := v10) (v11 := v11) (v12 := v12) (v13 := v13) hkk (hE h2 fc2 (lx_cls hx (sr_el w1) w2 (in_cov r A)) (w2 q (fun u => hqx (in_cov r A q u))))
      clear hE hx hW hrot hA hB hsc hwas hro hdj
      generalize comesS M e3 (kk % 12) (7 - kk / 12).toNat = cc at *
      generalize comesS M e3 (kk % 12) (7 - (kk / 12 + 1)).toNat = c2 at *
      have hi2 : ∀ h2 fc2, ab_sr h2 r = some (A, (S, O, fc2, T)) → ab_fr h h2 [A.2.2.1.1, A.2.2.1.2] → V 875 [some (.inr (.inl (some b))), some (.inr (.inl (some r))), some (.inr (.inl (some s))), some (.inl (tm)), some (.inl (x4)), some (.inl ((n : Int))), some (.inr (.inl (some g))), some (.inr (.inl (some g2))), some (.inr (.inl (some q))), some (.inl (v9)), some (.inl (v10)), some (.inl (v11)), some (.inl (v12)), some (.inl (v13)), some (.inl (th)), some (.inl (br)), some (.inl (cv + 0)), some (.inl (sm + cc)), some (.inl (kk)), some (.inl (kk % 12)), some (.inl (kk / 12)), some (.inl (0)), some (.inl (cc))] [.inl c2, .inl e3, .inl cc] h2 k z := by
        intro h2 fc2 w1 w2
        have i1 := i0 h2 fc2 w1 w2
        have hqc2 : h2 q = some (.inr (.inl (0, 4, dd))) := (w2 q (fun u => hqx (in_cov r A q u))).trans hqc
        clear i0
        refine hV (fun p => bif p == 881 then true else p == 916) 80 _ _ _ _ _ _ ?_
        simp only [bI_in, bI_0, bI_1, bI_t, bI_f, bI_01, ae_iadd, ae_iconst, ae_idiv, ae_if_icmp, dL_law_875, dL_law_876, dL_law_877, dL_law_878, ca_L_law_75, ca_L_law_76, ca_L_law_34, ca_L_law_80, ca_L_law_84, ca_L_law_88, ca_L_law_91, ca_L_law_99, ca_L_law_103, ca_L_law_106, ca_L_law_109, ca_L_law_112, ca_L_law_114, ca_L_law_118, ca_L_law_121, ca_L_law_126, ca_L_law_129, ca_L_law_135, ca_L_law_40, ca_L_law_139, ca_L_law_27, ca_L_law_23, ca_L_law_142, ab_wp0, ab_wps, ab_stp, ab_g, ab_st, ab_k2, ab_cl, ab_pop, ab_sz, ab_2, ab_ret, ab_f4, ab_tg, ab_I, ab_II, ab_A, ab_Rf, ab_VR, ab_IR, ab_VIR, ab_1, ab_LL, ab_DD, ab_ob, ab_pr, ab_qr, ab_ln, ab_so, ab_vI, ab_vA, ab_vD, ab_vL, ab_v2, ab_c, ab_fit, ab_rv, ab_tsw, ab_lsw, ab_up_eq, Fin.isValue, ab_f0, ab_f1, ab_f2, ab_f3, List.getElem?_cons_zero, List.getElem?_cons_succ, List.set_cons_zero, List.set_cons_succ, List.length_cons, List.length_nil, List.size_toArray, List.head?_cons, List.tail_cons, Option.map_some, cond_true, cond_false, true_and, and_true, false_and, and_false, not_true_eq_false, not_false_eq_true, true_imp_iff, false_imp_iff, if_true, if_false, ite_true, ite_false, ↓reduceIte, Nat.reduceAdd, Nat.reduceEqDiff, Nat.reduceLeDiff, Nat.reduceLT, Nat.reduceBEq, Nat.reduceBNe, Int.reduceAdd, Int.reduceNeg, Int.reduceSub, Int.reduceLE, Int.reduceLT, Int.reduceToNat, Int.reduceEq, Int.reduceMul, Int.cast_ofNat_Int, Nat.zero_add, Nat.add_zero, Nat.le_refl, eq_self, ne_eq, reduceCtorEq, or_true, true_or, or_false, false_or, Bool.or_true, Bool.or_false, Bool.true_or, Bool.false_or, Nat.zero_le, Int.le_refl, Int.ofNat_zero, Int.ofNat_one, Bool.false_eq_true]
        try simp only [ab_in]
        (repeat' (first | intro _ | refine And.intro ?_ ?_)) <;> (first | exact i1 | exact rfl | contradiction | omega | (exfalso; omega))
      clear i0
      refine hV (fun p => bif p == 875 then true else bif p == 916 then true else p == 881) 80 _ _ _ _ _ _ ?_
      simp only [hqc, he3, E, hrg, hcm, bI_in, bI_0, bI_1, bI_t, bI_f, bI_01, Tr_X3_comes, ae_aload, ae_aload_n, ae_bipush, ae_goto, ae_iadd, ae_iaload, ae_iconst, ae_ifCond, ae_if_icmp, ae_iload, ae_invokevirtual, ae_istore, dL_law_807, dL_law_809, dL_law_811, dL_law_814, dL_law_815, dL_law_818, dL_law_819, dL_law_820, dL_law_822, dL_law_824, dL_law_826, dL_law_827, dL_law_829, dL_law_831, dL_law_834, dL_law_836, dL_law_839, dL_law_841, dL_law_844, dL_law_846, dL_law_848, dL_law_849, dL_law_850, dL_law_852, dL_law_854, dL_law_857, dL_law_858, dL_law_861, dL_law_862, dL_law_864, dL_law_865, dL_law_866, dL_law_868, dL_law_870, dL_law_871, dL_law_872, ca_L_law_75, ca_L_law_76, ca_L_law_34, ca_L_law_80, ca_L_law_84, ca_L_law_88, ca_L_law_91, ca_L_law_99, ca_L_law_103, ca_L_law_106, ca_L_law_109, ca_L_law_112, ca_L_law_114, ca_L_law_118, ca_L_law_121, ca_L_law_126, ca_L_law_129, ca_L_law_135, ca_L_law_40, ca_L_law_139, ca_L_law_27, ca_L_law_23, ca_L_law_142, ab_wp0, ab_wps, ab_stp, ab_g, ab_st, ab_k2, ab_cl, ab_pop, ab_sz, ab_2, ab_ret, ab_f4, ab_tg, ab_I, ab_II, ab_A, ab_Rf, ab_VR, ab_IR, ab_VIR, ab_1, ab_LL, ab_DD, ab_ob, ab_pr, ab_qr, ab_ln, ab_so, ab_vI, ab_vA, ab_vD, ab_vL, ab_v2, ab_c, ab_fit, ab_rv, ab_tsw, ab_lsw, ab_up_eq, Fin.isValue, ab_f0, ab_f1, ab_f2, ab_f3, List.getElem?_cons_zero, List.getElem?_cons_succ, List.set_cons_zero, List.set_cons_succ, List.length_cons, List.length_nil, List.size_toArray, List.head?_cons, List.tail_cons, Option.map_some, cond_true, cond_false, true_and, and_true, false_and, and_false, not_true_eq_false, not_false_eq_true, true_imp_iff, false_imp_iff, if_true, if_false, ite_true, ite_false, ↓reduceIte, Nat.reduceAdd, Nat.reduceEqDiff, Nat.reduceLeDiff, Nat.reduceLT, Nat.reduceBEq, Nat.reduceBNe, Int.reduceAdd, Int.reduceNeg, Int.reduceSub, Int.reduceLE, Int.reduceLT, Int.reduceToNat, Int.reduceEq, Int.reduceMul, Int.cast_ofNat_Int, Nat.zero_add, Nat.add_zero, Nat.le_refl, eq_self, ne_eq, reduceCtorEq, or_true, true_or, or_false, false_or, Bool.or_true, Bool.or_false, Bool.true_or, Bool.false_or, Nat.zero_le, Int.le_refl, Int.ofNat_zero, Int.ofNat_one, Bool.false_eq_true]
      try simp only [ab_in]
      (repeat' (first | intro _ | refine And.intro ?_ ?_)) <;> (first | exact hi2 _ _ (by assumption) (by assumption) | exact rfl | contradiction | omega | (exfalso; omega))
  · rw [hc, bI_t] at his
    subst his
    have e := comes_cov (M := M) (rain := e3) (x := kk % 12) (y := kk / 12) (by omega) hc
    have i0 := law_p3 hV hkz hx hW hr3 hrot (is := 1) (th := th) (br := br) (cv := cv + 1) (sm := sm + comesS M e3 (kk % 12) (7 - kk / 12).toNat) (tm := tm) (x4 := x4) (v9 := v9) (v10 := v10) (v11 := v11) (v12 := v12) (v13 := v13) hkk (hE h fc hx rfl)
    clear hE hx hW hrot
    generalize comesS M e3 (kk % 12) (7 - kk / 12).toNat = cc at *
    subst e
    refine hV (fun p => bif p == 881 then true else bif p == 916 then true else p == 844) 80 _ _ _ _ _ _ ?_
    simp only [bI_in, bI_0, bI_1, bI_t, bI_f, bI_01, ae_goto, ae_iadd, ae_iconst, ae_ifCond, ae_iload, ae_istore, dL_law_807, dL_law_809, dL_law_811, dL_law_814, dL_law_815, dL_law_818, dL_law_819, dL_law_820, dL_law_822, dL_law_824, dL_law_826, dL_law_827, dL_law_829, dL_law_831, dL_law_834, dL_law_836, dL_law_839, dL_law_841, ca_L_law_75, ca_L_law_76, ca_L_law_34, ca_L_law_80, ca_L_law_84, ca_L_law_88, ca_L_law_91, ca_L_law_99, ca_L_law_103, ca_L_law_106, ca_L_law_109, ca_L_law_112, ca_L_law_114, ca_L_law_118, ca_L_law_121, ca_L_law_126, ca_L_law_129, ca_L_law_135, ca_L_law_40, ca_L_law_139, ca_L_law_27, ca_L_law_23, ca_L_law_142, ab_wp0, ab_wps, ab_stp, ab_g, ab_st, ab_k2, ab_cl, ab_pop, ab_sz, ab_2, ab_ret, ab_f4, ab_tg, ab_I, ab_II, ab_A, ab_Rf, ab_VR, ab_IR, ab_VIR, ab_1, ab_LL, ab_DD, ab_ob, ab_pr, ab_qr, ab_ln, ab_so, ab_vI, ab_vA, ab_vD, ab_vL, ab_v2, ab_c, ab_fit, ab_rv, ab_tsw, ab_lsw, ab_up_eq, Fin.isValue, ab_f0, ab_f1, ab_f2, ab_f3, List.getElem?_cons_zero, List.getElem?_cons_succ, List.set_cons_zero, List.set_cons_succ, List.length_cons, List.length_nil, List.size_toArray, List.head?_cons, List.tail_cons, Option.map_some, cond_true, cond_false, true_and, and_true, false_and, and_false, not_true_eq_false, not_false_eq_true, true_imp_iff, false_imp_iff, if_true, if_false, ite_true, ite_false, ↓reduceIte, Nat.reduceAdd, Nat.reduceEqDiff, Nat.reduceLeDiff, Nat.reduceLT, Nat.reduceBEq, Nat.reduceBNe, Int.reduceAdd, Int.reduceNeg, Int.reduceSub, Int.reduceLE, Int.reduceLT, Int.reduceToNat, Int.reduceEq, Int.reduceMul, Int.cast_ofNat_Int, Nat.zero_add, Nat.add_zero, Nat.le_refl, eq_self, ne_eq, reduceCtorEq, or_true, true_or, or_false, false_or, Bool.or_true, Bool.or_false, Bool.true_or, Bool.false_or, Nat.zero_le, Int.le_refl, Int.ofNat_zero, Int.ofNat_one, Bool.false_eq_true]
    try simp only [ab_in]
    (repeat' (first | intro _ | refine And.intro ?_ ?_)) <;> (first | exact i0 | exact rfl | contradiction | omega | (exfalso; omega))
set_option maxRecDepth 100000 in
set_option maxHeartbeats 4000000 in
theorem law_pl {base : Nat} {V : AVt} {r s b nb g n g2 q : Nat} {fb Rr dd : Int → Int} {F : Int → Int → Int} {A : SA} {S O : RS} {T : TS} {N : SN} {M : SM} {k z : Nat} (hV : lwHv base V) (hkz : k ≤ 90000 ∧ z ≤ 900000) (hW : Good S M) (hqx : ¬ q ∈ r :: srL A) {e3 : Int} (he3 : dd 3 = e3) (hr3 : 0 ≤ e3 ∧ e3 ≤ 9) (hrot : RotOk M Rr e3) {th br tm x4 v9 v10 v11 v12 v13 : Int}
    (hE : ∀ h' fc' w19 w20 w21 w22, LX h' r s A (S, O, fc', T) N M b nb fb g n F g2 Rr → h' q = some (.inr (.inl (0, 4, dd))) → V 752 [some (.inr (.inl (some b))), some (.inr (.inl (some r))), some (.inr (.inl (some s))), some (.inl (tm)), some (.inl (x4)), some (.inl ((n : Int))), some (.inr (.inl (some g))), some (.inr (.inl (some g2))), some (.inr (.inl (some q))), some (.inl (v9)), some (.inl (v10)), some (.inl (v11)), some (.inl (v12)), some (.inl (v13)), some (.inl (th)), some (.inl (br)), some (.inl (cvN M 96)), some (.inl (inN M e3 96)), some (.inl (96)), w19, w20, w21, w22] [] h' k z) :
    ∀ (m kk : Nat) (h : AH) (fc : Int → Int) (w19 w20 w21 w22 : Option AV), kk + m = 96 → LX h r s A (S, O, fc, T) N M b nb fb g n F g2 Rr → h q = some (.inr (.inl (0, 4, dd))) → V 752 [some (.inr (.inl (some b))), some (.inr (.inl (some r))), some (.inr (.inl (some s))), some (.inl (tm)), some (.inl (x4)), some (.inl ((n : Int))), some (.inr (.inl (some g))), some (.inr (.inl (some g2))), some (.inr (.inl (some q))), some (.inl (v9)), some (.inl (v10)), some (.inl (v11)), some (.inl (v12)), some (.inl (v13)), some (.inl (th)), some (.inl (br)), some (.inl (cvN M kk)), some (.inl (inN M e3 kk)), some (.inl ((kk : Int))), w19, w20, w21, w22] [] h k z := by
  intro m
  induction m with
  | zero =>
    intro kk h fc w19 w20 w21 w22 hk hx hqc
    have e : kk = 96 := by omega
    subst e
    exact hE h fc w19 w20 w21 w22 hx hqc
  | succ m ih =>
    intro kk h fc w19 w20 w21 w22 hk hx hqc
    obtain ⟨hA, hB, hsc, hwas, hro, hdj⟩ := id hx
    have E := hA.1
    dsimp only at E
    have hrg := sr_of hA
    have hlt : ¬ 96 ≤ (kk : Int) := by omega
    have c0 := cvN_r M kk
    have s0 := inN_r M hr3 kk
    have ekm : Int.tmod (kk : Int) 12 = (kk : Int) % 12 := Int.tmod_eq_emod_of_nonneg (by omega)
    have ekd : Int.tdiv (kk : Int) 12 = (kk : Int) / 12 := Int.tdiv_eq_ediv_of_nonneg (by omega)
    have hcm := comes_eq (f := fc) (rain := e3) hW.1 hW.2.1 hW.2.2 (x := (kk : Int) % 12) (y := (kk : Int) / 12) (by omega) (by omega)
    have q1 : placeF S ((kk : Int) % 12) ((kk : Int) / 12) 1 = bI (covS M ((kk : Int) % 12) ((kk : Int) / 12)) := by rw [cov_eq hW.1 hW.2.1 hW.2.2]; rfl
    have aft : ∀ (is : Int) (w22 : Option AV) h2 fc2, is = bI (covS M ((kk : Int) % 12) ((kk : Int) / 12)) → ab_sr h2 r = some (A, (S, O, fc2, T)) → ab_fr h h2 [A.2.2.1.1, A.2.2.1.2] → V 805 [some (.inr (.inl (some b))), some (.inr (.inl (some r))), some (.inr (.inl (some s))), some (.inl (tm)), some (.inl (x4)), some (.inl ((n : Int))), some (.inr (.inl (some g))), some (.inr (.inl (some g2))), some (.inr (.inl (some q))), some (.inl (v9)), some (.inl (v10)), some (.inl (v11)), some (.inl (v12)), some (.inl (v13)), some (.inl (th)), some (.inl (br)), some (.inl (cvN M kk)), some (.inl (inN M e3 kk)), some (.inl ((kk : Int))), some (.inl (((kk : Int) % 12))), some (.inl (((kk : Int) / 12))), some (.inl (is)), w22] [.inl (comesS M e3 ((kk : Int) % 12) (7 - (kk : Int) / 12).toNat)] h2 k z := by
      intro is w22 h2 fc2 his w1 w2
      have hx2 := lx_cls hx (sr_el w1) w2 (in_cov r A)
      have hqc2 : h2 q = some (.inr (.inl (0, 4, dd))) := (w2 q (fun u => hqx (in_cov r A q u))).trans hqc
      have i0 := law_p2 hV hkz hx2 hW hqc2 hqx he3 hr3 hrot (kk := kk) (th := th) (br := br) (cv := cvN M kk) (sm := inN M e3 kk) (is := is) (tm := tm) (x4 := x4) (v9 := v9) (v10 := v10) (v11 := v11) (v12 := v12) (v13 := v13) ⟨by omega, by omega⟩ his (by omega) (by omega) (fun h3 fc3 y1 y2 => by
        have i1 := ih (kk + 1) h3 fc3 (some (.inl ((kk : Int) % 12))) (some (.inl ((kk : Int) / 12))) (some (.inl is)) (some (.inl (comesS M e3 ((kk : Int) % 12) (7 - (kk : Int) / 12).toNat))) (by omega) y1 (y2.trans hqc2)
        have e1 : cvN M (kk + 1) = cvN M kk + is := by unfold cvN; rw [sumR_last, Int.zero_add, his]
        have e2 : inN M e3 (kk + 1) = inN M e3 kk + comesS M e3 ((kk : Int) % 12) (7 - (kk : Int) / 12).toNat := by unfold inN; rw [sumR_last, Int.zero_add]
        have e4 : ((kk + 1 : Nat) : Int) = (kk : Int) + 1 := by omega
        rw [e1, e2, e4] at i1
        clear ih hE hx hx2 hW hrot
        refine hV (fun p => bif p == 752 then true else p == 924) 80 _ _ _ _ _ _ ?_
        simp only [bI_in, bI_0, bI_1, bI_t, bI_f, bI_01, ae_goto, ae_iinc, dL_law_918, dL_law_921, ca_L_law_75, ca_L_law_76, ca_L_law_34, ca_L_law_80, ca_L_law_84, ca_L_law_88, ca_L_law_91, ca_L_law_99, ca_L_law_103, ca_L_law_106, ca_L_law_109, ca_L_law_112, ca_L_law_114, ca_L_law_118, ca_L_law_121, ca_L_law_126, ca_L_law_129, ca_L_law_135, ca_L_law_40, ca_L_law_139, ca_L_law_27, ca_L_law_23, ca_L_law_142, ab_wp0, ab_wps, ab_stp, ab_g, ab_st, ab_k2, ab_cl, ab_pop, ab_sz, ab_2, ab_ret, ab_f4, ab_tg, ab_I, ab_II, ab_A, ab_Rf, ab_VR, ab_IR, ab_VIR, ab_1, ab_LL, ab_DD, ab_ob, ab_pr, ab_qr, ab_ln, ab_so, ab_vI, ab_vA, ab_vD, ab_vL, ab_v2, ab_c, ab_fit, ab_rv, ab_tsw, ab_lsw, ab_up_eq, Fin.isValue, ab_f0, ab_f1, ab_f2, ab_f3, List.getElem?_cons_zero, List.getElem?_cons_succ, List.set_cons_zero, List.set_cons_succ, List.length_cons, List.length_nil, List.size_toArray, List.head?_cons, List.tail_cons, Option.map_some, cond_true, cond_false, true_and, and_true, false_and, and_false, not_true_eq_false, not_false_eq_true, true_imp_iff, false_imp_iff, if_true, if_false, ite_true, ite_false, ↓reduceIte, Nat.reduceAdd, Nat.reduceEqDiff, Nat.reduceLeDiff, Nat.reduceLT, Nat.reduceBEq, Nat.reduceBNe, Int.reduceAdd, Int.reduceNeg, Int.reduceSub, Int.reduceLE, Int.reduceLT, Int.reduceToNat, Int.reduceEq, Int.reduceMul, Int.cast_ofNat_Int, Nat.zero_add, Nat.add_zero, Nat.le_refl, eq_self, ne_eq, reduceCtorEq, or_true, true_or, or_false, false_or, Bool.or_true, Bool.or_false, Bool.true_or, Bool.false_or, Nat.zero_le, Int.le_refl, Int.ofNat_zero, Int.ofNat_one, Bool.false_eq_true]
        try simp only [ab_in]
        (repeat' (first | intro _ | refine And.intro ?_ ?_)) <;> (first | exact i1 | contradiction | omega | (exfalso; omega)))
      clear ih hE hx hx2 hW hrot
      refine hV (fun p => p == 807) 80 _ _ _ _ _ _ ?_
      simp only [bI_in, bI_0, bI_1, bI_t, bI_f, bI_01, ae_istore, dL_law_805, ca_L_law_75, ca_L_law_76, ca_L_law_34, ca_L_law_80, ca_L_law_84, ca_L_law_88, ca_L_law_91, ca_L_law_99, ca_L_law_103, ca_L_law_106, ca_L_law_109, ca_L_law_112, ca_L_law_114, ca_L_law_118, ca_L_law_121, ca_L_law_126, ca_L_law_129, ca_L_law_135, ca_L_law_40, ca_L_law_139, ca_L_law_27, ca_L_law_23, ca_L_law_142, ab_wp0, ab_wps, ab_stp, ab_g, ab_st, ab_k2, ab_cl, ab_pop, ab_sz, ab_2, ab_ret, ab_f4, ab_tg, ab_I, ab_II, ab_A, ab_Rf, ab_VR, ab_IR, ab_VIR, ab_1, ab_LL, ab_DD, ab_ob, ab_pr, ab_qr, ab_ln, ab_so, ab_vI, ab_vA, ab_vD, ab_vL, ab_v2, ab_c, ab_fit, ab_rv, ab_tsw, ab_lsw, ab_up_eq, Fin.isValue, ab_f0, ab_f1, ab_f2, ab_f3, List.getElem?_cons_zero, List.getElem?_cons_succ, List.set_cons_zero, List.set_cons_succ, List.length_cons, List.length_nil, List.size_toArray, List.head?_cons, List.tail_cons, Option.map_some, cond_true, cond_false, true_and, and_true, false_and, and_false, not_true_eq_false, not_false_eq_true, true_imp_iff, false_imp_iff, if_true, if_false, ite_true, ite_false, ↓reduceIte, Nat.reduceAdd, Nat.reduceEqDiff, Nat.reduceLeDiff, Nat.reduceLT, Nat.reduceBEq, Nat.reduceBNe, Int.reduceAdd, Int.reduceNeg, Int.reduceSub, Int.reduceLE, Int.reduceLT, Int.reduceToNat, Int.reduceEq, Int.reduceMul, Int.cast_ofNat_Int, Nat.zero_add, Nat.add_zero, Nat.le_refl, eq_self, ne_eq, reduceCtorEq, or_true, true_or, or_false, false_or, Bool.or_true, Bool.or_false, Bool.true_or, Bool.false_or, Nat.zero_le, Int.le_refl, Int.ofNat_zero, Int.ofNat_one, Bool.false_eq_true]
      try simp only [ab_in]
      (repeat' (first | intro _ | refine And.intro ?_ ?_)) <;> (first | exact i0 | contradiction | omega | (exfalso; omega))
    clear ih hE hx hW hrot hA hB hsc hwas hro hdj
    cases hcb : covS M ((kk : Int) % 12) ((kk : Int) / 12)
    · rw [hcb, bI_f] at q1
      have a2 := fun w22 h2 fc2 => aft 0 w22 h2 fc2 (by rw [hcb]; rfl)
      clear aft
      refine hV (fun p => bif p == 805 then true else p == 924) 80 _ _ _ _ _ _ ?_
      simp only [hqc, he3, ekm, ekd, q1, hlt, E, hrg, hcm, bI_in, bI_0, bI_1, bI_t, bI_f, bI_01, Tr_X3_place, Tr_X3_comes, ae_aload, ae_aload_n, ae_bipush, ae_goto, ae_iaload, ae_iconst, ae_idiv, ae_if_icmp, ae_iload, ae_invokevirtual, ae_irem, ae_istore, dL_law_752, dL_law_754, dL_law_756, dL_law_759, dL_law_761, dL_law_763, dL_law_764, dL_law_766, dL_law_768, dL_law_770, dL_law_771, dL_law_773, dL_law_774, dL_law_776, dL_law_778, dL_law_779, dL_law_782, dL_law_783, dL_law_786, dL_law_787, dL_law_790, dL_law_791, dL_law_793, dL_law_794, dL_law_796, dL_law_797, dL_law_798, dL_law_800, dL_law_802, ca_L_law_75, ca_L_law_76, ca_L_law_34, ca_L_law_80, ca_L_law_84, ca_L_law_88, ca_L_law_91, ca_L_law_99, ca_L_law_103, ca_L_law_106, ca_L_law_109, ca_L_law_112, ca_L_law_114, ca_L_law_118, ca_L_law_121, ca_L_law_126, ca_L_law_129, ca_L_law_135, ca_L_law_40, ca_L_law_139, ca_L_law_27, ca_L_law_23, ca_L_law_142, ab_wp0, ab_wps, ab_stp, ab_g, ab_st, ab_k2, ab_cl, ab_pop, ab_sz, ab_2, ab_ret, ab_f4, ab_tg, ab_I, ab_II, ab_A, ab_Rf, ab_VR, ab_IR, ab_VIR, ab_1, ab_LL, ab_DD, ab_ob, ab_pr, ab_qr, ab_ln, ab_so, ab_vI, ab_vA, ab_vD, ab_vL, ab_v2, ab_c, ab_fit, ab_rv, ab_tsw, ab_lsw, ab_up_eq, Fin.isValue, ab_f0, ab_f1, ab_f2, ab_f3, List.getElem?_cons_zero, List.getElem?_cons_succ, List.set_cons_zero, List.set_cons_succ, List.length_cons, List.length_nil, List.size_toArray, List.head?_cons, List.tail_cons, Option.map_some, cond_true, cond_false, true_and, and_true, false_and, and_false, not_true_eq_false, not_false_eq_true, true_imp_iff, false_imp_iff, if_true, if_false, ite_true, ite_false, ↓reduceIte, Nat.reduceAdd, Nat.reduceEqDiff, Nat.reduceLeDiff, Nat.reduceLT, Nat.reduceBEq, Nat.reduceBNe, Int.reduceAdd, Int.reduceNeg, Int.reduceSub, Int.reduceLE, Int.reduceLT, Int.reduceToNat, Int.reduceEq, Int.reduceMul, Int.cast_ofNat_Int, Nat.zero_add, Nat.add_zero, Nat.le_refl, eq_self, ne_eq, reduceCtorEq, or_true, true_or, or_false, false_or, Bool.or_true, Bool.or_false, Bool.true_or, Bool.false_or, Nat.zero_le, Int.le_refl, Int.ofNat_zero, Int.ofNat_one, Bool.false_eq_true]
      try simp only [ab_in]
      (repeat' (first | intro _ | refine And.intro ?_ ?_)) <;> (first | exact a2 _ _ _ (by assumption) (by assumption) | exact rfl | contradiction | omega | (exfalso; omega))
    · rw [hcb, bI_t] at q1
      have a2 := fun w22 h2 fc2 => aft 1 w22 h2 fc2 (by rw [hcb]; rfl)
      clear aft
      refine hV (fun p => bif p == 805 then true else p == 924) 80 _ _ _ _ _ _ ?_
      simp only [hqc, he3, ekm, ekd, q1, hlt, E, hrg, hcm, bI_in, bI_0, bI_1, bI_t, bI_f, bI_01, Tr_X3_place, Tr_X3_comes, ae_aload, ae_aload_n, ae_bipush, ae_goto, ae_iaload, ae_iconst, ae_idiv, ae_if_icmp, ae_iload, ae_invokevirtual, ae_irem, ae_istore, dL_law_752, dL_law_754, dL_law_756, dL_law_759, dL_law_761, dL_law_763, dL_law_764, dL_law_766, dL_law_768, dL_law_770, dL_law_771, dL_law_773, dL_law_774, dL_law_776, dL_law_778, dL_law_779, dL_law_782, dL_law_783, dL_law_786, dL_law_787, dL_law_790, dL_law_791, dL_law_793, dL_law_794, dL_law_796, dL_law_797, dL_law_798, dL_law_800, dL_law_802, ca_L_law_75, ca_L_law_76, ca_L_law_34, ca_L_law_80, ca_L_law_84, ca_L_law_88, ca_L_law_91, ca_L_law_99, ca_L_law_103, ca_L_law_106, ca_L_law_109, ca_L_law_112, ca_L_law_114, ca_L_law_118, ca_L_law_121, ca_L_law_126, ca_L_law_129, ca_L_law_135, ca_L_law_40, ca_L_law_139, ca_L_law_27, ca_L_law_23, ca_L_law_142, ab_wp0, ab_wps, ab_stp, ab_g, ab_st, ab_k2, ab_cl, ab_pop, ab_sz, ab_2, ab_ret, ab_f4, ab_tg, ab_I, ab_II, ab_A, ab_Rf, ab_VR, ab_IR, ab_VIR, ab_1, ab_LL, ab_DD, ab_ob, ab_pr, ab_qr, ab_ln, ab_so, ab_vI, ab_vA, ab_vD, ab_vL, ab_v2, ab_c, ab_fit, ab_rv, ab_tsw, ab_lsw, ab_up_eq, Fin.isValue, ab_f0, ab_f1, ab_f2, ab_f3, List.getElem?_cons_zero, List.getElem?_cons_succ, List.set_cons_zero, List.set_cons_succ, List.length_cons, List.length_nil, List.size_toArray, List.head?_cons, List.tail_cons, Option.map_some, cond_true, cond_false, true_and, and_true, false_and, and_false, not_true_eq_false, not_false_eq_true, true_imp_iff, false_imp_iff, if_true, if_false, ite_true, ite_false, ↓reduceIte, Nat.reduceAdd, Nat.reduceEqDiff, Nat.reduceLeDiff, Nat.reduceLT, Nat.reduceBEq, Nat.reduceBNe, Int.reduceAdd, Int.reduceNeg, Int.reduceSub, Int.reduceLE, Int.reduceLT, Int.reduceToNat, Int.reduceEq, Int.reduceMul, Int.cast_ofNat_Int, Nat.zero_add, Nat.add_zero, Nat.le_refl, eq_self, ne_eq, reduceCtorEq, or_true, true_or, or_false, false_or, Bool.or_true, Bool.or_false, Bool.true_or, Bool.false_or, Nat.zero_le, Int.le_refl, Int.ofNat_zero, Int.ofNat_one, Bool.false_eq_true]
      try simp only [ab_in]
      (repeat' (first | intro _ | refine And.intro ?_ ?_)) <;> (first | exact a2 _ _ _ (by assumption) (by assumption) | exact rfl | contradiction | omega | (exfalso; omega))
