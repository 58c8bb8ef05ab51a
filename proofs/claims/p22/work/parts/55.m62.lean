/-! ===== the law: what was ===== -/
/- -/
def BX (h : AH) (r s : Nat) (A : SA) (v : SV) (N : SN) (M : SM) (b nb : Nat) (fb : Int → Int) (g n : Nat) (F : Int → Int → Int) : Prop :=
  srAt h r (A, v) ∧ simAt h s (N, M) ∧ h b = some (.inr (.inl (9, nb, fb))) ∧ wasAt h g n F ∧ ∀ q, (q = b ∨ g ≤ q ∧ q ≤ g + n) → ¬ lwIn r s A N q
theorem lw_keep {h : AH} {r s : Nat} {A : SA} {v : SV} {N : SN} {M : SM} {q : Nat} {c : AC} (h1 : srAt h r (A, v)) (h2 : simAt h s (N, M)) (hq : ¬ lwIn r s A N q) : srAt (ab_up h q c) r (A, v) ∧ simAt (ab_up h q c) s (N, M) :=
  ⟨sr_fr h1 (fun b hb => by rw [ab_up_ap, if_neg]; rintro rfl; exact hq (Or.inl hb)), sim_keep h2 (fun b hb => by rw [ab_up_ap, if_neg]; rintro rfl; exact hq (Or.inr hb))⟩
theorem lw_nn {h : AH} {r s : Nat} {A : SA} {v : SV} {N : SN} {M : SM} {q : Nat} (h1 : srAt h r (A, v)) (h2 : simAt h s (N, M)) (hq : h q = none) : ¬ lwIn r s A N q := by
  rintro (u | u)
  · exact sr_nn h1 q u hq
  · exact sim_nn h2 u hq
theorem lw_sc {h : AH} {r s : Nat} {A : SA} {v : SV} {N : SN} {M : SM} {b nb : Nat} {fb : Int → Int} (h1 : srAt h r (A, v)) (h2 : simAt h s (N, M)) (hb : h b = some (.inr (.inl (9, nb, fb)))) : ¬ lwIn r s A N b := by
  rintro (u | u)
  · exact sc_not h1 u hb
  · rcases sim_kind h2 u with ⟨fs, e⟩ | ⟨n', f', e⟩ | ⟨w, f', e, -⟩ <;> cases hb.symm.trans e
theorem was_set {h : AH} {g n : Nat} {F : Int → Int → Int} (h1 : wasAt h g n F) {k : Int} (k0 : 0 ≤ k) (k1 : k < (n : Int)) (f : Int → Int) : wasAt (ab_up h (g + 1 + k.toNat) (.inr (.inl (0, 8, f)))) g n (ab_uf F k f) := by
  refine ⟨by rw [ab_up_ap, if_neg (by omega)]; exact h1.1, fun j j0 j1 => ?_⟩
  by_cases e : j = k
  · subst e
    have e9 : ab_uf F j f j = f := if_pos rfl
    rw [e9]; exact ab_up_eq _ _ _
  · have e9 : ab_uf F k f j = F j := if_neg e
    rw [e9, ab_up_ap, if_neg (by omega)]
    exact h1.2 j j0 j1
theorem bx_set {h : AH} {r s : Nat} {A : SA} {v : SV} {N : SN} {M : SM} {b nb : Nat} {fb : Int → Int} {g n : Nat} {F : Int → Int → Int} (x : BX h r s A v N M b nb fb g n F) {k : Int} (k0 : 0 ≤ k) (k1 : k < (n : Int)) (f : Int → Int) : BX (ab_up h (g + 1 + k.toNat) (.inr (.inl (0, 8, f)))) r s A v N M b nb fb g n (ab_uf F k f) := by
  obtain ⟨x1, x2, x3, x4, x5⟩ := x
  obtain ⟨y1, y2⟩ := lw_keep (c := .inr (.inl (0, 8, f))) x1 x2 (x5 (g + 1 + k.toNat) (Or.inr ⟨by omega, by omega⟩))
  refine ⟨y1, y2, ?_, was_set x4 k0 k1 f, x5⟩
  rw [ab_up_ap, if_neg]
  · exact x3
  · rintro rfl
    rw [x4.2 k k0 k1] at x3
    cases x3
theorem lx_new {h : AH} {r s : Nat} {A : SA} {v : SV} {N : SN} {M : SM} {b nb : Nat} {fb : Int → Int} {g n : Nat} {F : Int → Int → Int} (x : BX h r s A v N M b nb fb g n F) {g2 : Nat} (hg : h g2 = none) (f : Int → Int) : LX (ab_up h g2 (.inr (.inl (0, 96, f)))) r s A v N M b nb fb g n F g2 f := by
  obtain ⟨x1, x2, x3, x4, x5⟩ := x
  have hn := lw_nn x1 x2 hg
  obtain ⟨y1, y2⟩ := lw_keep (c := .inr (.inl (0, 96, f))) x1 x2 hn
  have hw : ∀ q, g ≤ q → q ≤ g + n → ¬ q = g2 := fun q q0 q1 => by
    rintro rfl
    by_cases e : q = g
    · subst e; rw [x4.1] at hg; cases hg
    · have := x4.2 ((q - g - 1 : Nat) : Int) (by omega) (by omega)
      rw [show g + 1 + ((q - g - 1 : Nat) : Int).toNat = q by omega, hg] at this
      cases this
  refine ⟨y1, y2, ?_, was_keep x4 (fun q q0 q1 => by rw [ab_up_ap, if_neg (hw q q0 q1)]), ab_up_eq _ _ _, fun q hq => ?_⟩
  · rw [ab_up_ap, if_neg (by rintro rfl; rw [hg] at x3; cases x3)]; exact x3
  · rcases hq with rfl | rfl | hq
    · exact x5 q (Or.inl rfl)
    · exact hn
    · exact x5 q (Or.inr hq)
theorem lx_rot {h : AH} {r s : Nat} {A : SA} {v : SV} {N : SN} {M : SM} {b nb : Nat} {fb : Int → Int} {g n : Nat} {F : Int → Int → Int} {g2 : Nat} {Rr : Int → Int} (x : LX h r s A v N M b nb fb g n F g2 Rr) (f : Int → Int) : LX (ab_up h g2 (.inr (.inl (0, 96, f)))) r s A v N M b nb fb g n F g2 f := by
  obtain ⟨x1, x2, x3, x4, x5, x6⟩ := x
  obtain ⟨y1, y2⟩ := lw_keep (c := .inr (.inl (0, 96, f))) x1 x2 (x6 g2 (Or.inr (Or.inl rfl)))
  refine ⟨y1, y2, ?_, was_keep x4 (fun q q0 q1 => ?_), ab_up_eq _ _ _, x6⟩
  · rw [ab_up_ap, if_neg (by rintro rfl; rw [x5] at x3; cases x3)]; exact x3
  · rw [ab_up_ap, if_neg]
    rintro rfl
    by_cases e : q = g
    · subst e; rw [x4.1] at x5; cases x5
    · have := x4.2 ((q - g - 1 : Nat) : Int) (by omega) (by omega)
      rw [show g + 1 + ((q - g - 1 : Nat) : Int).toNat = q by omega, x5] at this
      cases this
theorem bx_grid {h : AH} {r s : Nat} {A : SA} {v : SV} {N : SN} {M : SM} {b nb : Nat} {fb : Int → Int} (h1 : srAt h r (A, v)) (h2 : simAt h s (N, M)) (h3 : h b = some (.inr (.inl (9, nb, fb)))) {g n : Nat} (hg : ∀ q, g ≤ q → h q = none) : BX (ab_grid h g n 8) r s A v N M b nb fb g n (fun _ _ => 0) := by
  have old : ∀ q, h q ≠ none → ab_grid h g n 8 q = h q := fun q hq => by
    have : ¬ g ≤ q := fun u => hq (hg q u)
    rw [grid_ap, if_neg (by omega), if_neg (by omega)]
  have fo : ab_fo h (ab_grid h g n 8) (fun _ => False) := fun q _ hq => old q hq
  have y1 := sr_fo h1 fo
  have y2 := sim_fo h2 fo
  refine ⟨y1, y2, (old b (by rw [h3]; exact fun u => by cases u)).trans h3, ⟨by rw [grid_ap, if_pos rfl]; rfl, fun k k0 k1 => by rw [grid_ap, if_neg (by omega), if_pos (by omega)]⟩, fun q hq => ?_⟩
  rcases hq with rfl | ⟨q0, q1⟩
  · exact lw_sc h1 h2 h3
  · exact lw_nn h1 h2 (hg q q0)
set_option maxRecDepth 100000 in
set_option maxHeartbeats 4000000 in
theorem law_bw {base : Nat} {V : AVt} {r s b nb g n : Nat} {fb : Int → Int} {A : SA} {S O : RS} {fc : Int → Int} {T : TS} {N : SN} {M : SM} {k z : Nat} (hV : lwHv base V) (hkz : k ≤ 90000 ∧ z ≤ 900000) (hg : Good S M) {tm x4 : Int} {w9 w10 w11 w12 w13 w14 w15 w16 w17 w18 w19 w20 w21 w22 : Option AV} {kk : Int} (hkk : 0 ≤ kk ∧ kk < (n : Int)) (hn : n = M.n) (mb : MB M)
    (hE : ∀ h' F, BX h' r s A (S, O, fc, T) N M b nb fb g n F → (∀ j w, 0 ≤ j → j < kk + 1 → 0 ≤ w → w ≤ 7 → F j w = toldS M j w) → V 108 [some (.inr (.inl (some b))), some (.inr (.inl (some r))), some (.inr (.inl (some s))), some (.inl (tm)), some (.inl (x4)), some (.inl ((n : Int))), some (.inr (.inl (some g))), some (.inl (kk)), some (.inl (8)), w9, w10, w11, w12, w13, w14, w15, w16, w17, w18, w19, w20, w21, w22] [] h' k z) :
    ∀ (m : Nat) (what : Int) (h : AH) (F : Int → Int → Int), what + m = 8 → 0 ≤ what → BX h r s A (S, O, fc, T) N M b nb fb g n F → (∀ j w, 0 ≤ j → j < kk → 0 ≤ w → w ≤ 7 → F j w = toldS M j w) → (∀ w, 0 ≤ w → w < what → F kk w = toldS M kk w) → V 108 [some (.inr (.inl (some b))), some (.inr (.inl (some r))), some (.inr (.inl (some s))), some (.inl (tm)), some (.inl (x4)), some (.inl ((n : Int))), some (.inr (.inl (some g))), some (.inl (kk)), some (.inl (what)), w9, w10, w11, w12, w13, w14, w15, w16, w17, w18, w19, w20, w21, w22] [] h k z := by
  intro m
  induction m with
  | zero =>
    intro what h F hw h0 hx hF hF2
    have e : what = 8 := by omega
    subst e
    exact hE h F hx (fun j w j0 j1 w0 w1 => by
      by_cases q : j = kk
      · subst q; exact hF2 w w0 (by omega)
      · exact hF j w j0 (by omega) w0 w1)
  | succ m ih =>
    intro what h F hw h0 hx hF hF2
    obtain ⟨hA, hB, hsc, hwas, hdj⟩ := id hx
    have E := hA.1
    dsimp only at E
    have hrg := sr_of hA
    have hlt : ¬ 8 ≤ what := by omega
    have hen : (M.n : Int) = S.laid := hg.2.2.1
    have hw0 := hwas.1
    have hw1 := hwas.2 kk hkk.1 hkk.2
    have hgd : gdF g n kk = some (g + 1 + kk.toNat) := by unfold gdF; rw [if_pos hkk]
    have ht : tellF S kk what = toldS M kk what := told_eq hg.1 hg.2.1 hg.2.2 hkk.1 (by omega) what
    have hn2 : n ≤ 200 := by rw [hn]; exact mb.2.2.2.1
    have i0 := ih (what + 1) _ _ (by omega) (by omega) (bx_set hx hkk.1 hkk.2 (ab_uf (F kk) what (toldS M kk what))) (fun j w j0 j1 w0 w1 => by
      have e9 : ab_uf F kk (ab_uf (F kk) what (toldS M kk what)) j = F j := if_neg (by omega)
      rw [e9]; exact hF j w j0 j1 w0 w1) (fun w w0 w1 => by
      have e9 : ab_uf F kk (ab_uf (F kk) what (toldS M kk what)) kk = ab_uf (F kk) what (toldS M kk what) := if_pos rfl
      rw [e9]
      simp only [ab_uf]
      split
      · rename_i q; rw [q]
      · exact hF2 w w0 (by omega))
    clear ih hE hx hA hB hsc hwas hdj hF hF2 hg
    generalize g + 1 + kk.toNat = gg at *
    refine hV (fun p => bif p == 108 then true else p == 137) 80 _ _ _ _ _ _ ?_
    simp only [E, hrg, hw0, hw1, hgd, hlt, ht, bI_in, bI_0, bI_1, bI_t, bI_f, bI_01, Tr_X3_slate, ae_aaload, ae_aload, ae_aload_n, ae_bipush, ae_goto, ae_iastore, ae_if_icmp, ae_iinc, ae_iload, ae_invokevirtual, dL_law_108, dL_law_110, dL_law_112, dL_law_115, dL_law_117, dL_law_119, dL_law_120, dL_law_122, dL_law_123, dL_law_125, dL_law_127, dL_law_130, dL_law_131, dL_law_134, ca_L_law_75, ca_L_law_76, ca_L_law_34, ca_L_law_80, ca_L_law_84, ca_L_law_88, ca_L_law_91, ca_L_law_99, ca_L_law_103, ca_L_law_106, ca_L_law_109, ca_L_law_112, ca_L_law_114, ca_L_law_118, ca_L_law_121, ca_L_law_126, ca_L_law_129, ca_L_law_135, ca_L_law_40, ca_L_law_139, ca_L_law_27, ca_L_law_23, ca_L_law_142, ab_wp0, ab_wps, ab_stp, ab_g, ab_st, ab_k2, ab_cl, ab_pop, ab_sz, ab_2, ab_ret, ab_f4, ab_tg, ab_I, ab_II, ab_A, ab_Rf, ab_VR, ab_IR, ab_VIR, ab_1, ab_LL, ab_DD, ab_ob, ab_pr, ab_qr, ab_ln, ab_so, ab_vI, ab_vA, ab_vD, ab_vL, ab_v2, ab_c, ab_fit, ab_rv, ab_tsw, ab_lsw, ab_up_eq, Fin.isValue, ab_f0, ab_f1, ab_f2, ab_f3, List.getElem?_cons_zero, List.getElem?_cons_succ, List.set_cons_zero, List.set_cons_succ, List.length_cons, List.length_nil, List.size_toArray, List.head?_cons, List.tail_cons, Option.map_some, cond_true, cond_false, true_and, and_true, false_and, and_false, not_true_eq_false, not_false_eq_true, true_imp_iff, false_imp_iff, if_true, if_false, ite_true, ite_false, ↓reduceIte, Nat.reduceAdd, Nat.reduceEqDiff, Nat.reduceLeDiff, Nat.reduceLT, Nat.reduceBEq, Nat.reduceBNe, Int.reduceAdd, Int.reduceNeg, Int.reduceSub, Int.reduceLE, Int.reduceLT, Int.reduceToNat, Int.reduceEq, Int.reduceMul, Int.cast_ofNat_Int, Nat.zero_add, Nat.add_zero, Nat.le_refl, eq_self, ne_eq, reduceCtorEq, or_true, true_or, or_false, false_or, Bool.or_true, Bool.or_false, Bool.true_or, Bool.false_or, Nat.zero_le, Int.le_refl, Int.ofNat_zero, Int.ofNat_one, Bool.false_eq_true]
    try simp only [ab_in]
    (repeat' (first | intro _ | refine And.intro ?_ ?_)) <;> (first | exact i0 | exact rfl | contradiction | omega | (exfalso; omega))
set_option maxRecDepth 100000 in
set_option maxHeartbeats 4000000 in
theorem law_bk {base : Nat} {V : AVt} {r s b nb g n : Nat} {fb : Int → Int} {A : SA} {S O : RS} {fc : Int → Int} {T : TS} {N : SN} {M : SM} {k z : Nat} (hV : lwHv base V) (hkz : k ≤ 90000 ∧ z ≤ 900000) (hg : Good S M) {tm x4 : Int} {w9 w10 w11 w12 w13 w14 w15 w16 w17 w18 w19 w20 w21 w22 : Option AV} (hn : n = M.n) (mb : MB M)
    (hE : ∀ h' F w8, BX h' r s A (S, O, fc, T) N M b nb fb g n F → (∀ j w, 0 ≤ j → j < (n : Int) → 0 ≤ w → w ≤ 7 → F j w = toldS M j w) → V 98 [some (.inr (.inl (some b))), some (.inr (.inl (some r))), some (.inr (.inl (some s))), some (.inl (tm)), some (.inl (x4)), some (.inl ((n : Int))), some (.inr (.inl (some g))), some (.inl ((n : Int))), w8, w9, w10, w11, w12, w13, w14, w15, w16, w17, w18, w19, w20, w21, w22] [] h' k z) :
    ∀ (m kk : Nat) (h : AH) (F : Int → Int → Int) (w8 : Option AV), kk + m = n → BX h r s A (S, O, fc, T) N M b nb fb g n F → (∀ j w, 0 ≤ j → j < (kk : Int) → 0 ≤ w → w ≤ 7 → F j w = toldS M j w) → V 98 [some (.inr (.inl (some b))), some (.inr (.inl (some r))), some (.inr (.inl (some s))), some (.inl (tm)), some (.inl (x4)), some (.inl ((n : Int))), some (.inr (.inl (some g))), some (.inl ((kk : Int))), w8, w9, w10, w11, w12, w13, w14, w15, w16, w17, w18, w19, w20, w21, w22] [] h k z := by
  intro m
  induction m with
  | zero =>
    intro kk h F w8 hk hx hF
    have e : kk = n := by omega
    subst e
    exact hE h F w8 hx hF
  | succ m ih =>
    intro kk h F w8 hk hx hF
    have hlt : ¬ (n : Int) ≤ (kk : Int) := by omega
    have hn2 : n ≤ 200 := by rw [hn]; exact mb.2.2.2.1
    have ek : ((kk + 1 : Nat) : Int) = (kk : Int) + 1 := by omega
    have i0 := law_bw hV hkz hg (tm := tm) (x4 := x4) (w9 := w9) (w10 := w10) (w11 := w11) (w12 := w12) (w13 := w13) (w14 := w14) (w15 := w15) (w16 := w16) (w17 := w17) (w18 := w18) (w19 := w19) (w20 := w20) (w21 := w21) (w22 := w22) (kk := (kk : Int)) (by omega) hn mb (fun h2 F2 y1 y2 => by
      have i1 := ih (kk + 1) h2 F2 (some (.inl 8)) (by omega) y1 (by rw [ek]; exact y2)
      rw [ek] at i1
      clear ih hE hx hF
      refine hV (fun p => bif p == 115 then true else p == 98) 80 _ _ _ _ _ _ ?_
      simp only [bI_in, bI_0, bI_1, bI_t, bI_f, bI_01, ae_bipush, ae_if_icmp, ae_iload, dL_law_108, dL_law_110, dL_law_112, ca_L_law_75, ca_L_law_76, ca_L_law_34, ca_L_law_80, ca_L_law_84, ca_L_law_88, ca_L_law_91, ca_L_law_99, ca_L_law_103, ca_L_law_106, ca_L_law_109, ca_L_law_112, ca_L_law_114, ca_L_law_118, ca_L_law_121, ca_L_law_126, ca_L_law_129, ca_L_law_135, ca_L_law_40, ca_L_law_139, ca_L_law_27, ca_L_law_23, ca_L_law_142, ab_wp0, ab_wps, ab_stp, ab_g, ab_st, ab_k2, ab_cl, ab_pop, ab_sz, ab_2, ab_ret, ab_f4, ab_tg, ab_I, ab_II, ab_A, ab_Rf, ab_VR, ab_IR, ab_VIR, ab_1, ab_LL, ab_DD, ab_ob, ab_pr, ab_qr, ab_ln, ab_so, ab_vI, ab_vA, ab_vD, ab_vL, ab_v2, ab_c, ab_fit, ab_rv, ab_tsw, ab_lsw, ab_up_eq, Fin.isValue, ab_f0, ab_f1, ab_f2, ab_f3, List.getElem?_cons_zero, List.getElem?_cons_succ, List.set_cons_zero, List.set_cons_succ, List.length_cons, List.length_nil, List.size_toArray, List.head?_cons, List.tail_cons, Option.map_some, cond_true, cond_false, true_and, and_true, false_and, and_false, not_true_eq_false, not_false_eq_true, true_imp_iff, false_imp_iff, if_true, if_false, ite_true, ite_false, ↓reduceIte, Nat.reduceAdd, Nat.reduceEqDiff, Nat.reduceLeDiff, Nat.reduceLT, Nat.reduceBEq, Nat.reduceBNe, Int.reduceAdd, Int.reduceNeg, Int.reduceSub, Int.reduceLE, Int.reduceLT, Int.reduceToNat, Int.reduceEq, Int.reduceMul, Int.cast_ofNat_Int, Nat.zero_add, Nat.add_zero, Nat.le_refl, eq_self, ne_eq, reduceCtorEq, or_true, true_or, or_false, false_or, Bool.or_true, Bool.or_false, Bool.true_or, Bool.false_or, Nat.zero_le, Int.le_refl, Int.ofNat_zero, Int.ofNat_one, Bool.false_eq_true, ae_goto, ae_iinc, dL_law_137, dL_law_140, ca_L_law_75, ca_L_law_76, ca_L_law_34, ca_L_law_80, ca_L_law_84, ca_L_law_88, ca_L_law_91, ca_L_law_99, ca_L_law_103, ca_L_law_106, ca_L_law_109, ca_L_law_112, ca_L_law_114, ca_L_law_118, ca_L_law_121, ca_L_law_126, ca_L_law_129, ca_L_law_135, ca_L_law_40, ca_L_law_139, ca_L_law_27, ca_L_law_23, ca_L_law_142, ab_wp0, ab_wps, ab_stp, ab_g, ab_st, ab_k2, ab_cl, ab_pop, ab_sz, ab_2, ab_ret, ab_f4, ab_tg, ab_I, ab_II, ab_A, ab_Rf, ab_VR, ab_IR, ab_VIR, ab_1, ab_LL, ab_DD, ab_ob, ab_pr, ab_qr, ab_ln, ab_so, ab_vI, ab_vA, ab_vD, ab_vL, ab_v2, ab_c, ab_fit, ab_rv, ab_tsw, ab_lsw, ab_up_eq, Fin.isValue, ab_f0, ab_f1, ab_f2, ab_f3, List.getElem?_cons_zero, List.getElem?_cons_succ, List.set_cons_zero, List.set_cons_succ, List.length_cons, List.length_nil, List.size_toArray, List.head?_cons, List.tail_cons, Option.map_some, cond_true, cond_false, true_and, and_true, false_and, and_false, not_true_eq_false, not_false_eq_true, true_imp_iff, false_imp_iff, if_true, if_false, ite_true, ite_false, ↓reduceIte, Nat.reduceAdd, Nat.reduceEqDiff, Nat.reduceLeDiff, Nat.reduceLT, Nat.reduceBEq, Nat.reduceBNe, Int.reduceAdd, Int.reduceNeg, Int.reduceSub, Int.reduceLE, Int.reduceLT, Int.reduceToNat, Int.reduceEq, Int.reduceMul, Int.cast_ofNat_Int, Nat.zero_add, Nat.add_zero, Nat.le_refl, eq_self, ne_eq, reduceCtorEq, or_true, true_or, or_false, false_or, Bool.or_true, Bool.or_false, Bool.true_or, Bool.false_or, Nat.zero_le, Int.le_refl, Int.ofNat_zero, Int.ofNat_one, Bool.false_eq_true]
      try simp only [ab_in]
      (repeat' (first | intro _ | refine And.intro ?_ ?_)) <;> (first | exact i1 | exact rfl | contradiction | omega | (exfalso; omega))) 8 0 h F (by omega) (by omega) hx hF (fun w w0 w1 => absurd w1 (by omega))
    clear ih hE hx hF
    refine hV (fun p => bif p == 108 then true else p == 143) 80 _ _ _ _ _ _ ?_
    simp only [hlt, bI_in, bI_0, bI_1, bI_t, bI_f, bI_01, ae_iconst, ae_if_icmp, ae_iload, ae_istore, dL_law_98, dL_law_100, dL_law_102, dL_law_105, dL_law_106, ca_L_law_75, ca_L_law_76, ca_L_law_34, ca_L_law_80, ca_L_law_84, ca_L_law_88, ca_L_law_91, ca_L_law_99, ca_L_law_103, ca_L_law_106, ca_L_law_109, ca_L_law_112, ca_L_law_114, ca_L_law_118, ca_L_law_121, ca_L_law_126, ca_L_law_129, ca_L_law_135, ca_L_law_40, ca_L_law_139, ca_L_law_27, ca_L_law_23, ca_L_law_142, ab_wp0, ab_wps, ab_stp, ab_g, ab_st, ab_k2, ab_cl, ab_pop, ab_sz, ab_2, ab_ret, ab_f4, ab_tg, ab_I, ab_II, ab_A, ab_Rf, ab_VR, ab_IR, ab_VIR, ab_1, ab_LL, ab_DD, ab_ob, ab_pr, ab_qr, ab_ln, ab_so, ab_vI, ab_vA, ab_vD, ab_vL, ab_v2, ab_c, ab_fit, ab_rv, ab_tsw, ab_lsw, ab_up_eq, Fin.isValue, ab_f0, ab_f1, ab_f2, ab_f3, List.getElem?_cons_zero, List.getElem?_cons_succ, List.set_cons_zero, List.set_cons_succ, List.length_cons, List.length_nil, List.size_toArray, List.head?_cons, List.tail_cons, Option.map_some, cond_true, cond_false, true_and, and_true, false_and, and_false, not_true_eq_false, not_false_eq_true, true_imp_iff, false_imp_iff, if_true, if_false, ite_true, ite_false, ↓reduceIte, Nat.reduceAdd, Nat.reduceEqDiff, Nat.reduceLeDiff, Nat.reduceLT, Nat.reduceBEq, Nat.reduceBNe, Int.reduceAdd, Int.reduceNeg, Int.reduceSub, Int.reduceLE, Int.reduceLT, Int.reduceToNat, Int.reduceEq, Int.reduceMul, Int.cast_ofNat_Int, Nat.zero_add, Nat.add_zero, Nat.le_refl, eq_self, ne_eq, reduceCtorEq, or_true, true_or, or_false, false_or, Bool.or_true, Bool.or_false, Bool.true_or, Bool.false_or, Nat.zero_le, Int.le_refl, Int.ofNat_zero, Int.ofNat_one, Bool.false_eq_true]
    try simp only [ab_in]
    (repeat' (first | intro _ | refine And.intro ?_ ?_)) <;> (first | exact i0 | exact rfl | contradiction | omega | (exfalso; omega))
set_option maxRecDepth 100000 in
set_option maxHeartbeats 4000000 in
theorem law_r {base : Nat} {V : AVt} {r s b nb g n g2 : Nat} {fb : Int → Int} {F : Int → Int → Int} {A : SA} {S O : RS} {fc : Int → Int} {T : TS} {N : SN} {M : SM} {k z : Nat} (hV : lwHv base V) (hkz : k ≤ 90000 ∧ z ≤ 900000) (hg : Good S M) {tm x4 : Int} {w9 w10 w11 w12 w13 w14 w15 w16 w17 w18 w19 w20 w21 w22 : Option AV}
    (hE : ∀ h' Rr, LX h' r s A (S, O, fc, T) N M b nb fb g n F g2 Rr → (∀ j, 0 ≤ j → j < 96 → Rr j = M.rt (j % 12) (j / 12)) → V 152 [some (.inr (.inl (some b))), some (.inr (.inl (some r))), some (.inr (.inl (some s))), some (.inl (tm)), some (.inl (x4)), some (.inl ((n : Int))), some (.inr (.inl (some g))), some (.inr (.inl (some g2))), some (.inl (96)), w9, w10, w11, w12, w13, w14, w15, w16, w17, w18, w19, w20, w21, w22] [] h' k z) :
    ∀ (m kk : Nat) (h : AH) (Rr : Int → Int), kk + m = 96 → LX h r s A (S, O, fc, T) N M b nb fb g n F g2 Rr → (∀ j, 0 ≤ j → j < (kk : Int) → Rr j = M.rt (j % 12) (j / 12)) → V 152 [some (.inr (.inl (some b))), some (.inr (.inl (some r))), some (.inr (.inl (some s))), some (.inl (tm)), some (.inl (x4)), some (.inl ((n : Int))), some (.inr (.inl (some g))), some (.inr (.inl (some g2))), some (.inl ((kk : Int))), w9, w10, w11, w12, w13, w14, w15, w16, w17, w18, w19, w20, w21, w22] [] h k z := by
  intro m
  induction m with
  | zero =>
    intro kk h Rr hk hx hR
    have e : kk = 96 := by omega
    subst e
    exact hE h Rr hx hR
  | succ m ih =>
    intro kk h Rr hk hx hR
    obtain ⟨hA, hB, hsc, hwas, hro, hdj⟩ := id hx
    have E := hA.1
    dsimp only at E
    have hrg := sr_of hA
    have hlt : ¬ 96 ≤ (kk : Int) := by omega
    have ekm : Int.tmod (kk : Int) 12 = (kk : Int) % 12 := Int.tmod_eq_emod_of_nonneg (by omega)
    have ekd : Int.tdiv (kk : Int) 12 = (kk : Int) / 12 := Int.tdiv_eq_ediv_of_nonneg (by omega)
    have hp : placeF S ((kk : Int) % 12) ((kk : Int) / 12) 2 = M.rt ((kk : Int) % 12) ((kk : Int) / 12) := rt_eq hg.2.2 (by omega) (by omega)
    have ek : ((kk + 1 : Nat) : Int) = (kk : Int) + 1 := by omega
    have i0 := ih (kk + 1) _ _ (by omega) (lx_rot hx (ab_uf Rr (kk : Int) (M.rt ((kk : Int) % 12) ((kk : Int) / 12)))) (fun j j0 j1 => by
      simp only [ab_uf]
      split
      · rename_i q; rw [q]
      · exact hR j j0 (by omega))
    rw [ek] at i0
    clear ih hE hx hA hB hsc hwas hdj hR hg
    refine hV (fun p => bif p == 152 then true else p == 185) 80 _ _ _ _ _ _ ?_
    simp only [E, hrg, hro, ekm, ekd, hp, hlt, bI_in, bI_0, bI_1, bI_t, bI_f, bI_01, Tr_X3_place, ae_aload, ae_aload_n, ae_bipush, ae_goto, ae_iastore, ae_iconst, ae_idiv, ae_if_icmp, ae_iinc, ae_iload, ae_invokevirtual, ae_irem, dL_law_152, dL_law_154, dL_law_156, dL_law_159, dL_law_161, dL_law_163, dL_law_164, dL_law_166, dL_law_168, dL_law_169, dL_law_171, dL_law_173, dL_law_174, dL_law_175, dL_law_178, dL_law_179, dL_law_182, ca_L_law_75, ca_L_law_76, ca_L_law_34, ca_L_law_80, ca_L_law_84, ca_L_law_88, ca_L_law_91, ca_L_law_99, ca_L_law_103, ca_L_law_106, ca_L_law_109, ca_L_law_112, ca_L_law_114, ca_L_law_118, ca_L_law_121, ca_L_law_126, ca_L_law_129, ca_L_law_135, ca_L_law_40, ca_L_law_139, ca_L_law_27, ca_L_law_23, ca_L_law_142, ab_wp0, ab_wps, ab_stp, ab_g, ab_st, ab_k2, ab_cl, ab_pop, ab_sz, ab_2, ab_ret, ab_f4, ab_tg, ab_I, ab_II, ab_A, ab_Rf, ab_VR, ab_IR, ab_VIR, ab_1, ab_LL, ab_DD, ab_ob, ab_pr, ab_qr, ab_ln, ab_so, ab_vI, ab_vA, ab_vD, ab_vL, ab_v2, ab_c, ab_fit, ab_rv, ab_tsw, ab_lsw, ab_up_eq, Fin.isValue, ab_f0, ab_f1, ab_f2, ab_f3, List.getElem?_cons_zero, List.getElem?_cons_succ, List.set_cons_zero, List.set_cons_succ, List.length_cons, List.length_nil, List.size_toArray, List.head?_cons, List.tail_cons, Option.map_some, cond_true, cond_false, true_and, and_true, false_and, and_false, not_true_eq_false, not_false_eq_true, true_imp_iff, false_imp_iff, if_true, if_false, ite_true, ite_false, ↓reduceIte, Nat.reduceAdd, Nat.reduceEqDiff, Nat.reduceLeDiff, Nat.reduceLT, Nat.reduceBEq, Nat.reduceBNe, Int.reduceAdd, Int.reduceNeg, Int.reduceSub, Int.reduceLE, Int.reduceLT, Int.reduceToNat, Int.reduceEq, Int.reduceMul, Int.cast_ofNat_Int, Nat.zero_add, Nat.add_zero, Nat.le_refl, eq_self, ne_eq, reduceCtorEq, or_true, true_or, or_false, false_or, Bool.or_true, Bool.or_false, Bool.true_or, Bool.false_or, Nat.zero_le, Int.le_refl, Int.ofNat_zero, Int.ofNat_one, Bool.false_eq_true]
    try simp only [ab_in]
    (repeat' (first | intro _ | refine And.intro ?_ ?_)) <;> (first | exact i0 | exact rfl | contradiction | omega | (exfalso; omega))
set_option maxRecDepth 100000 in
set_option maxHeartbeats 4000000 in
theorem law_b {base : Nat} {V : AVt} {h : AH} {r s b nb : Nat} {fb : Int → Int} {A : SA} {S O : RS} {fc : Int → Int} {T : TS} {N : SN} {M : SM} {k z : Nat} (hV : lwHv base V) (hkz : k + 300 ≤ 90000 ∧ z + 3000 ≤ 900000) (hp : LwP h r s A (S, O, fc, T) N M) (hsc : h b = some (.inr (.inl (9, nb, fb)))) {tm x4 v5 : Int} {w6 w7 w8 w9 w10 w11 w12 w13 w14 w15 w16 w17 w18 w19 w20 w21 w22 : Option AV}
    (hE : ∀ h' g g2 F Rr q, LX h' r s A (S, O, fc, T) N M b nb fb g M.n F g2 Rr → (∀ j w, 0 ≤ j → j < (M.n : Int) → 0 ≤ w → w ≤ 7 → F j w = toldS M j w) → (∀ j, 0 ≤ j → j < 96 → Rr j = M.rt (j % 12) (j / 12)) → N.2.2.2.2.2 (M.day % 7) = some q → h' q = some (.inr (.inl (0, 4, M.dy (M.day % 7)))) → V 199 [some (.inr (.inl (some b))), some (.inr (.inl (some r))), some (.inr (.inl (some s))), some (.inl (tm)), some (.inl (x4)), some (.inl ((M.n : Int))), some (.inr (.inl (some g))), some (.inr (.inl (some g2))), some (.inr (.inl (some q))), w9, w10, w11, w12, w13, w14, w15, w16, w17, w18, w19, w20, w21, w22] [] h' (k + (1 + M.n) + 1) (z + (M.n + M.n * 8) + 96)) : V 78 [some (.inr (.inl (some b))), some (.inr (.inl (some r))), some (.inr (.inl (some s))), some (.inl (tm)), some (.inl (x4)), some (.inl (v5)), w6, w7, w8, w9, w10, w11, w12, w13, w14, w15, w16, w17, w18, w19, w20, w21, w22] [] h k z := by
  obtain ⟨hA, hB, hg, hT⟩ := id hp
  have E := hA.1
  dsimp only at E hg hT
  have hrg := sr_of hA
  have mb := hB.1
  dsimp only at mb
  have hn2 : M.n ≤ 200 := mb.2.2.2.1
  have hen : (M.n : Int) = S.laid := hg.2.2.1
  have ec : countF S 1 = (M.n : Int) := by show S.laid = _; omega
  have etn : (M.n : Int).toNat = M.n := by omega
  have et8 : (8 : Int).toNat = 8 := rfl
  have aft : ∀ g, (∀ q, g ≤ q → h q = none) → V 93 [some (.inr (.inl (some b))), some (.inr (.inl (some r))), some (.inr (.inl (some s))), some (.inl (tm)), some (.inl (x4)), some (.inl ((M.n : Int))), w6, w7, w8, w9, w10, w11, w12, w13, w14, w15, w16, w17, w18, w19, w20, w21, w22] [.inr (.inl (some g))] (ab_grid h g M.n 8) (k + (1 + M.n)) (z + (M.n + M.n * 8)) := by
    intro g hgn
    have bx := bx_grid hA hB hsc (n := M.n) hgn
    have i0 := law_bk (n := M.n) (k := k + (1 + M.n)) (z := z + (M.n + M.n * 8)) hV (by omega) hg (tm := tm) (x4 := x4) (w9 := w9) (w10 := w10) (w11 := w11) (w12 := w12) (w13 := w13) (w14 := w14) (w15 := w15) (w16 := w16) (w17 := w17) (w18 := w18) (w19 := w19) (w20 := w20) (w21 := w21) (w22 := w22) rfl mb (fun h2 F y8 b1 b2 => by
      have a2 : ∀ g2, h2 g2 = none → V 147 [some (.inr (.inl (some b))), some (.inr (.inl (some r))), some (.inr (.inl (some s))), some (.inl (tm)), some (.inl (x4)), some (.inl ((M.n : Int))), some (.inr (.inl (some g))), some (.inl ((M.n : Int))), y8, w9, w10, w11, w12, w13, w14, w15, w16, w17, w18, w19, w20, w21, w22] [.inr (.inl (some g2))] (ab_up h2 g2 (.inr (.inl (0, 96, fun _ => 0)))) (k + (1 + M.n) + 1) (z + (M.n + M.n * 8) + 96) := by
        intro g2 hg2
        have i1 := law_r (k := k + (1 + M.n) + 1) (z := z + (M.n + M.n * 8) + 96) hV (by omega) hg (tm := tm) (x4 := x4) (w9 := w9) (w10 := w10) (w11 := w11) (w12 := w12) (w13 := w13) (w14 := w14) (w15 := w15) (w16 := w16) (w17 := w17) (w18 := w18) (w19 := w19) (w20 := w20) (w21 := w21) (w22 := w22) (fun h3 Rr l1 l2 => by
          have hdy := l1.2.1.1.2.2.2.2.1
          have D := l1.2.1.2.1
          have D2 := l1.2.1.2.2.2.2.2.1
          dsimp only at hdy D D2
          obtain ⟨q, hq1, hq2⟩ := l1.2.1.2.2.2.2.2.2.2.2.1 (M.day % 7) (by omega) (by omega)
          have etm : Int.tmod M.day 7 = M.day % 7 := Int.tmod_eq_emod_of_nonneg hdy.1
          have i2 := hE h3 g g2 F Rr q l1 b2 l2 hq1 hq2
          dsimp only at hq1
          clear hE hp hA hB hg hT bx b1 b2 l1 l2 hq2
          refine hV (fun p => bif p == 159 then true else p == 199) 80 _ _ _ _ _ _ ?_
          simp only [D, D2, hq1, etm, bI_in, bI_0, bI_1, bI_t, bI_f, bI_01, ae_bipush, ae_if_icmp, ae_iload, dL_law_152, dL_law_154, dL_law_156, ca_L_law_75, ca_L_law_76, ca_L_law_34, ca_L_law_80, ca_L_law_84, ca_L_law_88, ca_L_law_91, ca_L_law_99, ca_L_law_103, ca_L_law_106, ca_L_law_109, ca_L_law_112, ca_L_law_114, ca_L_law_118, ca_L_law_121, ca_L_law_126, ca_L_law_129, ca_L_law_135, ca_L_law_40, ca_L_law_139, ca_L_law_27, ca_L_law_23, ca_L_law_142, ab_wp0, ab_wps, ab_stp, ab_g, ab_st, ab_k2, ab_cl, ab_pop, ab_sz, ab_2, ab_ret, ab_f4, ab_tg, ab_I, ab_II, ab_A, ab_Rf, ab_VR, ab_IR, ab_VIR, ab_1, ab_LL, ab_DD, ab_ob, ab_pr, ab_qr, ab_ln, ab_so, ab_vI, ab_vA, ab_vD, ab_vL, ab_v2, ab_c, ab_fit, ab_rv, ab_tsw, ab_lsw, ab_up_eq, Fin.isValue, ab_f0, ab_f1, ab_f2, ab_f3, List.getElem?_cons_zero, List.getElem?_cons_succ, List.set_cons_zero, List.set_cons_succ, List.length_cons, List.length_nil, List.size_toArray, List.head?_cons, List.tail_cons, Option.map_some, cond_true, cond_false, true_and, and_true, false_and, and_false, not_true_eq_false, not_false_eq_true, true_imp_iff, false_imp_iff, if_true, if_false, ite_true, ite_false, ↓reduceIte, Nat.reduceAdd, Nat.reduceEqDiff, Nat.reduceLeDiff, Nat.reduceLT, Nat.reduceBEq, Nat.reduceBNe, Int.reduceAdd, Int.reduceNeg, Int.reduceSub, Int.reduceLE, Int.reduceLT, Int.reduceToNat, Int.reduceEq, Int.reduceMul, Int.cast_ofNat_Int, Nat.zero_add, Nat.add_zero, Nat.le_refl, eq_self, ne_eq, reduceCtorEq, or_true, true_or, or_false, false_or, Bool.or_true, Bool.or_false, Bool.true_or, Bool.false_or, Nat.zero_le, Int.le_refl, Int.ofNat_zero, Int.ofNat_one, Bool.false_eq_true, ae_aaload, ae_aload_n, ae_astore, ae_bipush, ae_getfield, ae_irem, dL_law_185, dL_law_186, dL_law_189, dL_law_190, dL_law_193, dL_law_195, dL_law_196, dL_law_197, tbL_g44, tbL_g95, ca_L_law_75, ca_L_law_76, ca_L_law_34, ca_L_law_80, ca_L_law_84, ca_L_law_88, ca_L_law_91, ca_L_law_99, ca_L_law_103, ca_L_law_106, ca_L_law_109, ca_L_law_112, ca_L_law_114, ca_L_law_118, ca_L_law_121, ca_L_law_126, ca_L_law_129, ca_L_law_135, ca_L_law_40, ca_L_law_139, ca_L_law_27, ca_L_law_23, ca_L_law_142, ab_wp0, ab_wps, ab_stp, ab_g, ab_st, ab_k2, ab_cl, ab_pop, ab_sz, ab_2, ab_ret, ab_f4, ab_tg, ab_I, ab_II, ab_A, ab_Rf, ab_VR, ab_IR, ab_VIR, ab_1, ab_LL, ab_DD, ab_ob, ab_pr, ab_qr, ab_ln, ab_so, ab_vI, ab_vA, ab_vD, ab_vL, ab_v2, ab_c, ab_fit, ab_rv, ab_tsw, ab_lsw, ab_up_eq, Fin.isValue, ab_f0, ab_f1, ab_f2, ab_f3, List.getElem?_cons_zero, List.getElem?_cons_succ, List.set_cons_zero, List.set_cons_succ, List.length_cons, List.length_nil, List.size_toArray, List.head?_cons, List.tail_cons, Option.map_some, cond_true, cond_false, true_and, and_true, false_and, and_false, not_true_eq_false, not_false_eq_true, true_imp_iff, false_imp_iff, if_true, if_false, ite_true, ite_false, ↓reduceIte, Nat.reduceAdd, Nat.reduceEqDiff, Nat.reduceLeDiff, Nat.reduceLT, Nat.reduceBEq, Nat.reduceBNe, Int.reduceAdd, Int.reduceNeg, Int.reduceSub, Int.reduceLE, Int.reduceLT, Int.reduceToNat, Int.reduceEq, Int.reduceMul, Int.cast_ofNat_Int, Nat.zero_add, Nat.add_zero, Nat.le_refl, eq_self, ne_eq, reduceCtorEq, or_true, true_or, or_false, false_or, Bool.or_true, Bool.or_false, Bool.true_or, Bool.false_or, Nat.zero_le, Int.le_refl, Int.ofNat_zero, Int.ofNat_one, Bool.false_eq_true]
          try simp only [ab_in]
          (repeat' (first | intro _ | refine And.intro ?_ ?_)) <;> (first | exact i2 | exact rfl | contradiction | omega | (exfalso; omega))) 96 0 _ _ (by omega) (lx_new b1 hg2 (fun _ => 0)) (fun j j0 j1 => absurd j1 (by omega))
        clear hE hp hA hB hg hT bx b1 b2
        refine hV (fun p => p == 152) 80 _ _ _ _ _ _ ?_
        simp only [bI_in, bI_0, bI_1, bI_t, bI_f, bI_01, ae_astore, ae_iconst, ae_istore, dL_law_147, dL_law_149, dL_law_150, ca_L_law_75, ca_L_law_76, ca_L_law_34, ca_L_law_80, ca_L_law_84, ca_L_law_88, ca_L_law_91, ca_L_law_99, ca_L_law_103, ca_L_law_106, ca_L_law_109, ca_L_law_112, ca_L_law_114, ca_L_law_118, ca_L_law_121, ca_L_law_126, ca_L_law_129, ca_L_law_135, ca_L_law_40, ca_L_law_139, ca_L_law_27, ca_L_law_23, ca_L_law_142, ab_wp0, ab_wps, ab_stp, ab_g, ab_st, ab_k2, ab_cl, ab_pop, ab_sz, ab_2, ab_ret, ab_f4, ab_tg, ab_I, ab_II, ab_A, ab_Rf, ab_VR, ab_IR, ab_VIR, ab_1, ab_LL, ab_DD, ab_ob, ab_pr, ab_qr, ab_ln, ab_so, ab_vI, ab_vA, ab_vD, ab_vL, ab_v2, ab_c, ab_fit, ab_rv, ab_tsw, ab_lsw, ab_up_eq, Fin.isValue, ab_f0, ab_f1, ab_f2, ab_f3, List.getElem?_cons_zero, List.getElem?_cons_succ, List.set_cons_zero, List.set_cons_succ, List.length_cons, List.length_nil, List.size_toArray, List.head?_cons, List.tail_cons, Option.map_some, cond_true, cond_false, true_and, and_true, false_and, and_false, not_true_eq_false, not_false_eq_true, true_imp_iff, false_imp_iff, if_true, if_false, ite_true, ite_false, ↓reduceIte, Nat.reduceAdd, Nat.reduceEqDiff, Nat.reduceLeDiff, Nat.reduceLT, Nat.reduceBEq, Nat.reduceBNe, Int.reduceAdd, Int.reduceNeg, Int.reduceSub, Int.reduceLE, Int.reduceLT, Int.reduceToNat, Int.reduceEq, Int.reduceMul, Int.cast_ofNat_Int, Nat.zero_add, Nat.add_zero, Nat.le_refl, eq_self, ne_eq, reduceCtorEq, or_true, true_or, or_false, false_or, Bool.or_true, Bool.or_false, Bool.true_or, Bool.false_or, Nat.zero_le, Int.le_refl, Int.ofNat_zero, Int.ofNat_one, Bool.false_eq_true]
        try simp only [ab_in]
        (repeat' (first | intro _ | refine And.intro ?_ ?_)) <;> (first | exact i1 | exact rfl | contradiction | omega | (exfalso; omega))
      have hle : (M.n : Int) ≤ (M.n : Int) := Int.le_refl _
      clear hE hp hA hB hg hT bx b1 b2
      refine hV (fun p => bif p == 105 then true else p == 147) 80 _ _ _ _ _ _ ?_
      simp only [hle, ab_at_i, bI_in, bI_0, bI_1, bI_t, bI_f, bI_01, ae_if_icmp, ae_iload, dL_law_98, dL_law_100, dL_law_102, ca_L_law_75, ca_L_law_76, ca_L_law_34, ca_L_law_80, ca_L_law_84, ca_L_law_88, ca_L_law_91, ca_L_law_99, ca_L_law_103, ca_L_law_106, ca_L_law_109, ca_L_law_112, ca_L_law_114, ca_L_law_118, ca_L_law_121, ca_L_law_126, ca_L_law_129, ca_L_law_135, ca_L_law_40, ca_L_law_139, ca_L_law_27, ca_L_law_23, ca_L_law_142, ab_wp0, ab_wps, ab_stp, ab_g, ab_st, ab_k2, ab_cl, ab_pop, ab_sz, ab_2, ab_ret, ab_f4, ab_tg, ab_I, ab_II, ab_A, ab_Rf, ab_VR, ab_IR, ab_VIR, ab_1, ab_LL, ab_DD, ab_ob, ab_pr, ab_qr, ab_ln, ab_so, ab_vI, ab_vA, ab_vD, ab_vL, ab_v2, ab_c, ab_fit, ab_rv, ab_tsw, ab_lsw, ab_up_eq, Fin.isValue, ab_f0, ab_f1, ab_f2, ab_f3, List.getElem?_cons_zero, List.getElem?_cons_succ, List.set_cons_zero, List.set_cons_succ, List.length_cons, List.length_nil, List.size_toArray, List.head?_cons, List.tail_cons, Option.map_some, cond_true, cond_false, true_and, and_true, false_and, and_false, not_true_eq_false, not_false_eq_true, true_imp_iff, false_imp_iff, if_true, if_false, ite_true, ite_false, ↓reduceIte, Nat.reduceAdd, Nat.reduceEqDiff, Nat.reduceLeDiff, Nat.reduceLT, Nat.reduceBEq, Nat.reduceBNe, Int.reduceAdd, Int.reduceNeg, Int.reduceSub, Int.reduceLE, Int.reduceLT, Int.reduceToNat, Int.reduceEq, Int.reduceMul, Int.cast_ofNat_Int, Nat.zero_add, Nat.add_zero, Nat.le_refl, eq_self, ne_eq, reduceCtorEq, or_true, true_or, or_false, false_or, Bool.or_true, Bool.or_false, Bool.true_or, Bool.false_or, Nat.zero_le, Int.le_refl, Int.ofNat_zero, Int.ofNat_one, Bool.false_eq_true, ae_bipush, ae_newarray, dL_law_143, dL_law_145, ca_L_law_75, ca_L_law_76, ca_L_law_34, ca_L_law_80, ca_L_law_84, ca_L_law_88, ca_L_law_91, ca_L_law_99, ca_L_law_103, ca_L_law_106, ca_L_law_109, ca_L_law_112, ca_L_law_114, ca_L_law_118, ca_L_law_121, ca_L_law_126, ca_L_law_129, ca_L_law_135, ca_L_law_40, ca_L_law_139, ca_L_law_27, ca_L_law_23, ca_L_law_142, ab_wp0, ab_wps, ab_stp, ab_g, ab_st, ab_k2, ab_cl, ab_pop, ab_sz, ab_2, ab_ret, ab_f4, ab_tg, ab_I, ab_II, ab_A, ab_Rf, ab_VR, ab_IR, ab_VIR, ab_1, ab_LL, ab_DD, ab_ob, ab_pr, ab_qr, ab_ln, ab_so, ab_vI, ab_vA, ab_vD, ab_vL, ab_v2, ab_c, ab_fit, ab_rv, ab_tsw, ab_lsw, ab_up_eq, Fin.isValue, ab_f0, ab_f1, ab_f2, ab_f3, List.getElem?_cons_zero, List.getElem?_cons_succ, List.set_cons_zero, List.set_cons_succ, List.length_cons, List.length_nil, List.size_toArray, List.head?_cons, List.tail_cons, Option.map_some, cond_true, cond_false, true_and, and_true, false_and, and_false, not_true_eq_false, not_false_eq_true, true_imp_iff, false_imp_iff, if_true, if_false, ite_true, ite_false, ↓reduceIte, Nat.reduceAdd, Nat.reduceEqDiff, Nat.reduceLeDiff, Nat.reduceLT, Nat.reduceBEq, Nat.reduceBNe, Int.reduceAdd, Int.reduceNeg, Int.reduceSub, Int.reduceLE, Int.reduceLT, Int.reduceToNat, Int.reduceEq, Int.reduceMul, Int.cast_ofNat_Int, Nat.zero_add, Nat.add_zero, Nat.le_refl, eq_self, ne_eq, reduceCtorEq, or_true, true_or, or_false, false_or, Bool.or_true, Bool.or_false, Bool.true_or, Bool.false_or, Nat.zero_le, Int.le_refl, Int.ofNat_zero, Int.ofNat_one, Bool.false_eq_true]
      try simp only [ab_in]
      (repeat' (first | intro _ | refine And.intro ?_ ?_)) <;> (first | exact a2 _ (by assumption) | exact (by decide) | exact rfl | contradiction | omega | (exfalso; omega))) M.n 0 _ _ w8 (by omega) bx (fun j w j0 j1 => absurd j1 (by omega))
    clear hE hp hA hB hg hT bx
    refine hV (fun p => p == 98) 80 _ _ _ _ _ _ ?_
    simp only [bI_in, bI_0, bI_1, bI_t, bI_f, bI_01, ae_astore, ae_iconst, ae_istore, dL_law_93, dL_law_95, dL_law_96, ca_L_law_75, ca_L_law_76, ca_L_law_34, ca_L_law_80, ca_L_law_84, ca_L_law_88, ca_L_law_91, ca_L_law_99, ca_L_law_103, ca_L_law_106, ca_L_law_109, ca_L_law_112, ca_L_law_114, ca_L_law_118, ca_L_law_121, ca_L_law_126, ca_L_law_129, ca_L_law_135, ca_L_law_40, ca_L_law_139, ca_L_law_27, ca_L_law_23, ca_L_law_142, ab_wp0, ab_wps, ab_stp, ab_g, ab_st, ab_k2, ab_cl, ab_pop, ab_sz, ab_2, ab_ret, ab_f4, ab_tg, ab_I, ab_II, ab_A, ab_Rf, ab_VR, ab_IR, ab_VIR, ab_1, ab_LL, ab_DD, ab_ob, ab_pr, ab_qr, ab_ln, ab_so, ab_vI, ab_vA, ab_vD, ab_vL, ab_v2, ab_c, ab_fit, ab_rv, ab_tsw, ab_lsw, ab_up_eq, Fin.isValue, ab_f0, ab_f1, ab_f2, ab_f3, List.getElem?_cons_zero, List.getElem?_cons_succ, List.set_cons_zero, List.set_cons_succ, List.length_cons, List.length_nil, List.size_toArray, List.head?_cons, List.tail_cons, Option.map_some, cond_true, cond_false, true_and, and_true, false_and, and_false, not_true_eq_false, not_false_eq_true, true_imp_iff, false_imp_iff, if_true, if_false, ite_true, ite_false, ↓reduceIte, Nat.reduceAdd, Nat.reduceEqDiff, Nat.reduceLeDiff, Nat.reduceLT, Nat.reduceBEq, Nat.reduceBNe, Int.reduceAdd, Int.reduceNeg, Int.reduceSub, Int.reduceLE, Int.reduceLT, Int.reduceToNat, Int.reduceEq, Int.reduceMul, Int.cast_ofNat_Int, Nat.zero_add, Nat.add_zero, Nat.le_refl, eq_self, ne_eq, reduceCtorEq, or_true, true_or, or_false, false_or, Bool.or_true, Bool.or_false, Bool.true_or, Bool.false_or, Nat.zero_le, Int.le_refl, Int.ofNat_zero, Int.ofNat_one, Bool.false_eq_true]
    try simp only [ab_in]
    (repeat' (first | intro _ | refine And.intro ?_ ?_)) <;> (first | exact i0 | exact rfl | contradiction | omega | (exfalso; omega))
  clear hE hp hA hB hg hT
  refine hV (fun p => p == 93) 80 _ _ _ _ _ _ ?_
  simp only [E, hrg, ec, etn, et8, bI_in, bI_0, bI_1, bI_t, bI_f, bI_01, Tr_X3_count, ae_aload_n, ae_bipush, ae_iconst, ae_iload, ae_invokevirtual, ae_istore, ae_multianewarray, dL_law_78, dL_law_79, dL_law_80, dL_law_83, dL_law_85, dL_law_87, dL_law_89, tbL_a87, ca_L_law_75, ca_L_law_76, ca_L_law_34, ca_L_law_80, ca_L_law_84, ca_L_law_88, ca_L_law_91, ca_L_law_99, ca_L_law_103, ca_L_law_106, ca_L_law_109, ca_L_law_112, ca_L_law_114, ca_L_law_118, ca_L_law_121, ca_L_law_126, ca_L_law_129, ca_L_law_135, ca_L_law_40, ca_L_law_139, ca_L_law_27, ca_L_law_23, ca_L_law_142, ab_wp0, ab_wps, ab_stp, ab_g, ab_st, ab_k2, ab_cl, ab_pop, ab_sz, ab_2, ab_ret, ab_f4, ab_tg, ab_I, ab_II, ab_A, ab_Rf, ab_VR, ab_IR, ab_VIR, ab_1, ab_LL, ab_DD, ab_ob, ab_pr, ab_qr, ab_ln, ab_so, ab_vI, ab_vA, ab_vD, ab_vL, ab_v2, ab_c, ab_fit, ab_rv, ab_tsw, ab_lsw, ab_up_eq, Fin.isValue, ab_f0, ab_f1, ab_f2, ab_f3, List.getElem?_cons_zero, List.getElem?_cons_succ, List.set_cons_zero, List.set_cons_succ, List.length_cons, List.length_nil, List.size_toArray, List.head?_cons, List.tail_cons, Option.map_some, cond_true, cond_false, true_and, and_true, false_and, and_false, not_true_eq_false, not_false_eq_true, true_imp_iff, false_imp_iff, if_true, if_false, ite_true, ite_false, ↓reduceIte, Nat.reduceAdd, Nat.reduceEqDiff, Nat.reduceLeDiff, Nat.reduceLT, Nat.reduceBEq, Nat.reduceBNe, Int.reduceAdd, Int.reduceNeg, Int.reduceSub, Int.reduceLE, Int.reduceLT, Int.reduceToNat, Int.reduceEq, Int.reduceMul, Int.cast_ofNat_Int, Nat.zero_add, Nat.add_zero, Nat.le_refl, eq_self, ne_eq, reduceCtorEq, or_true, true_or, or_false, false_or, Bool.or_true, Bool.or_false, Bool.true_or, Bool.false_or, Nat.zero_le, Int.le_refl, Int.ofNat_zero, Int.ofNat_one, Bool.false_eq_true]
  try simp only [ab_in]
  (repeat' (first | intro _ | refine And.intro ?_ ?_)) <;> (first | exact aft _ (by assumption) | exact (by decide) | exact rfl | contradiction | omega | (exfalso; omega))
