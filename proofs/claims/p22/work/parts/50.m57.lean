/-! ===== the law's helpers: a roof that cells choose ===== -/
theorem ar_X4_init : ∀ as h K, Tr_X4_init as h K → ∃ b As, as = .inr (.inl (some b)) :: As := by
  intro as h K ht
  unfold Tr_X4_init at ht
  split at ht
  · exact ⟨_, _, rfl⟩
  · exact ht.elim
def sv0 : SV := (roof0 96, roof0 96, (fun _ => 0), ((fun _ => 0), (fun _ => 0), (fun _ => 0), (fun _ => 0)))
def BQ (h h' : AH) (r s : Nat) (A : SA) : Prop := ∃ v N M, LwP h' r s A v N M ∧ M.day = 0 ∧ ab_fo h h' (fun b => b ∈ r :: srL A) ∧ ∀ b, simIn N s b → h b = none
theorem bq_step {h h1 h2 : AH} {r s : Nat} {A : SA} {v : SV} {N : SN} {M : SM} (p : LwP h1 r s A v N M) (hd : M.day = 0) (fo : ab_fo h h1 (fun b => b ∈ r :: srL A)) (fr : ∀ b, simIn N s b → h b = none) (q : LwQ h1 h2 r s A N M.day) : BQ h h2 r s A := by
  obtain ⟨v', N', M', p2, e, f2, g2⟩ := q
  have key : ∀ b, h1 b = none → h b = none := by
    intro b hb
    by_cases hr : b ∈ r :: srL A
    · exact absurd hb (sr_nn p.1 b hr)
    · cases hc : h b with
      | none => rfl
      | some c => rw [fo b hr (by rw [hc]; exact fun u => by cases u), hc] at hb; cases hb
  refine ⟨v', N', M', p2, e.trans hd, fun b hb hn => ?_, fun b hb => ?_⟩
  · have e1 := fo b hb hn
    refine (f2 b ?_ (by rw [e1]; exact hn)).trans e1
    rintro (u | u)
    · exact hb u
    · exact hn (fr b u)
  · rcases g2 b hb with u | u
    · exact fr b u
    · exact key b u
theorem good_0 : Good (roof0 96) sim0 := by
  have hn : ∀ x y, numberAtF (roof0 96) x y = -1 := by
    intro x y
    unfold numberAtF
    split
    · exact if_pos (by omega)
    · rfl
  refine ⟨roof0_r 96, ⟨fun s s0 s1 => ?_, fun s x y hs => ?_, fun x y => Or.inl (hn x y), ⟨rfl, by decide⟩, by decide⟩, rfl, fun k k0 k1 => ?_, fun x y _ _ _ _ => rfl, rfl, rfl⟩
  · have : s < 0 := s1; omega
  · have : s < 0 := hs.1.2.1
    have := hs.1.1
    omega
  · have : k < 0 := k1; omega
theorem tab_0 : TabR ((fun _ => 0), (fun _ => 0), (fun _ => 0), (fun _ => 0)) sim0 := fun _ _ _ => ⟨rfl, rfl, rfl, rfl⟩
/-- a day of the table gets a new row -/
theorem sim_dyn {h : AH} {a g : Nat} {N : SN} {M : SM} (h1 : simAt h a (N, M)) (hg : h g = none) {k : Int} (k0 : 0 ≤ k) (k1 : k < 7) {v : Int → Int} (hv : dyB v) :
    simAt (ab_up (ab_up h g (.inr (.inl (0, 4, v)))) N.2.2.2.2.1 (.inr (.inr (3, 7, ab_uf N.2.2.2.2.2 k (some g))))) a ((N.1, N.2.1, N.2.2.1, N.2.2.2.1, N.2.2.2.2.1, ab_uf N.2.2.2.2.2 k (some g)), M.s_dy (ab_uf M.dy k v)) := by
  obtain ⟨sA, fS, rA, fR, dA, fD⟩ := N
  obtain ⟨mb, c, nd, c0, c1, c2, r0, r1, r2⟩ := id h1
  dsimp only at c nd c0 c1 c2 r0 r1 r2 ⊢
  have ndn := nd
  simp only [List.nodup_cons, List.mem_cons, List.not_mem_nil, or_false, not_or, not_false_eq_true, List.nodup_nil, and_true] at ndn
  have old : ∀ b cc, h b = some cc → ¬ b = dA → ab_up (ab_up h g (.inr (.inl (0, 4, v)))) dA (.inr (.inr (3, 7, ab_uf fD k (some g)))) b = some cc := fun b cc e hb => by
    rw [ab_up_ap, if_neg hb, ab_up_ap, if_neg (by rintro rfl; rw [hg] at e; cases e), e]
  have nq : ∀ b w f, h b = some (.inr (.inl (0, w, f))) → ¬ b = dA := fun b w f e => by rintro rfl; rw [c2] at e; cases e
  have R2 : rowsAt (ab_up (ab_up h g (.inr (.inl (0, 4, v)))) dA (.inr (.inr (3, 7, ab_uf fD k (some g))))) 4 7 (ab_uf fD k (some g)) (ab_uf M.dy k v) := by
    refine ⟨fun j j0 j1 => ?_, fun j hj => ?_, fun i j q hi hj => ?_⟩
    · by_cases hjk : j = k
      · subst hjk
        refine ⟨g, by simp [ab_uf], ?_⟩
        rw [ab_up_ap, if_neg (by rintro rfl; rw [hg] at c2; cases c2), ab_up_eq]
        simp [ab_uf]
      · obtain ⟨q, e1, e2⟩ := r2.1 j j0 j1
        refine ⟨q, by simp only [ab_uf]; rw [if_neg hjk]; exact e1, ?_⟩
        have e9 : ab_uf M.dy k v j = M.dy j := if_neg hjk
        rw [e9]
        exact old _ _ e2 (nq _ _ _ e2)
    · have hjk : ¬ j = k := by omega
      have e8 : ab_uf fD k (some g) j = fD j := if_neg hjk
      have e9 : ab_uf M.dy k v j = M.dy j := if_neg hjk
      rw [e8, e9]
      exact r2.2.1 j hj
    · simp only [ab_uf] at hi hj
      split at hi
      · rename_i e1
        split at hj
        · rename_i e2; rw [e1, e2]
        · cases hi
          have := (rows_some r2 hj).2
          rw [hg] at this; cases this
      · split at hj
        · cases hj
          have := (rows_some r2 hi).2
          rw [hg] at this; cases this
        · exact r2.2.2 i j q hi hj
  refine ⟨⟨mb.1, mb.2.1, fun j => ?_, mb.2.2.2⟩, old _ _ c (by rintro rfl; rw [c2] at c; cases c), nd, old _ _ c0 ndn.1.2, old _ _ c1 ndn.2, ab_up_eq _ _ _, ?_, ?_, R2⟩
  · show dyB (ab_uf M.dy k v j)
    simp only [ab_uf]
    split
    · exact hv
    · exact mb.2.2.1 j
  · exact rows_keep r0 (fun k q e => (old _ _ (rows_some r0 e).2 (nq _ _ _ (rows_some r0 e).2)).trans (rows_some r0 e).2.symm)
  · exact rows_keep r1 (fun k q e => (old _ _ (rows_some r1 e).2 (nq _ _ _ (rows_some r1 e).2)).trans (rows_some r1 e).2.symm)
noncomputable def Tr_L_build : ATr := fun as h K => match as with
  | [.inr (.inl (some r)), .inr (.inl (some b))] => ab_so (ab_sr h r) fun P => ab_pr (h b) fun t n f => (t = 9 ∧ n ≤ 300 ∧ P.2 = sv0) ∧ ∀ h' s, BQ h h' r s P.1 → K (some (.inr (.inl (some s)))) h'
  | _ => False
theorem mo_L_build : ab_mo Tr_L_build := by
  intro as h K K' hk ht
  unfold Tr_L_build at ht ⊢
  split at ht
  · exact ab_so_mo (fun _ q => ab_pr_mo (fun _ _ _ q2 => ⟨q2.1, fun h' s e1 => hk _ _ (q2.2 h' s e1)⟩) q) ht
  · exact ht.elim
def ca_L_build : Nat → Option ACS := ab_lk [(33, (1, 0, 1, 22, 143, Tr_X4_init)), (34, (2, 0, 2, 0, 0, Tr_L_cell)), (40, (2, 0, 2, 0, 0, Tr_L_below)), (47, (0, 3, 6, 0, 0, Tr_X3_setDay)), (51, (2, 0, 6, 2, 206, Tr_L_lays))]
theorem ca_L_build_33 : ca_L_build 33 = some (1, 0, 1, 22, 143, Tr_X4_init) := rfl
theorem ca_L_build_34 : ca_L_build 34 = some (2, 0, 2, 0, 0, Tr_L_cell) := rfl
theorem ca_L_build_40 : ca_L_build 40 = some (2, 0, 2, 0, 0, Tr_L_below) := rfl
theorem ca_L_build_47 : ca_L_build 47 = some (0, 3, 6, 0, 0, Tr_X3_setDay) := rfl
theorem ca_L_build_51 : ca_L_build 51 = some (2, 0, 6, 2, 206, Tr_L_lays) := rfl
theorem cm_L_build : ∀ i q, ca_L_build i = some q → ab_moq i q := ab_lk_all (ab_all_c mo_X4_init (ab_all_c mo_L_cell (ab_all_c mo_L_below (ab_all_c mo_X3_setDay (ab_all_c mo_L_lays (ab_all_n))))))
theorem sc_keep {h h1 : AH} {r b nb : Nat} {A : SA} {fb : Int → Int} (fo : ab_fo h h1 (fun b => b ∈ r :: srL A)) (hsc : h b = some (.inr (.inl (9, nb, fb)))) (hbr : b ∉ r :: srL A) : h1 b = some (.inr (.inl (9, nb, fb))) := (fo b hbr (by rw [hsc]; exact fun q => by cases q)).trans hsc
set_option maxRecDepth 100000 in
set_option maxHeartbeats 4000000 in
theorem build_x {base : Nat} {K : Option AV → AH → Prop} {V : AVt} {h : AH} {r s b nb : Nat} {A : SA} {fb : Int → Int} (hV : ab_Hv tbL lw_ts base cL_build ca_L_build 3 160 13400 K V) (hsc : h b = some (.inr (.inl (9, nb, fb)))) (hnb : nb ≤ 300) (hbr : b ∉ r :: srL A) {rows y : Int} (hy : 0 ≤ y ∧ y ≤ 7) {k9 z9 : Nat} (hkz : k9 + 16 ≤ 160 ∧ z9 + 1648 ≤ 13400)
    (hE : ∀ (x : Int) w6 w7 w8 h1 (k z : Nat), k ≤ k9 + 16 → z ≤ z9 + 1648 → BQ h h1 r s A → V 330 [some (.inr (.inl (some r))), some (.inr (.inl (some b))), some (.inr (.inl (some s))), some (.inl (rows)), some (.inl (y)), some (.inl (x)), w6, w7, w8] [] h1 k z) :
    ∀ (m : Nat) (kk x : Int) (w7 w8 : Option AV) (h1 : AH) (k z : Nat), kk + m = 8 → 0 ≤ kk → (0 ≤ x ∧ x ≤ 100) → (k : Int) ≤ k9 + 2 * kk → (z : Int) ≤ z9 + 206 * kk → BQ h h1 r s A → V 222 [some (.inr (.inl (some r))), some (.inr (.inl (some b))), some (.inr (.inl (some s))), some (.inl (rows)), some (.inl (y)), some (.inl (x)), some (.inl (kk)), w7, w8] [] h1 k z := by
  intro m
  induction m with
  | zero =>
    intro kk x w7 w8 h1 k z hk h0 hx hkc hzc hq
    have hle : 8 ≤ kk := by omega
    have i0 := hE x (some (.inl kk)) w7 w8 h1 k z (by omega) (by omega) hq
    clear hE
    by_cases h12 : 12 ≤ x
    · refine hV (fun p => bif p == 10 then true else bif p == 33 then true else bif p == 63 then true else bif p == 171 then true else bif p == 176 then true else bif p == 182 then true else bif p == 198 then true else bif p == 222 then true else bif p == 295 then true else p == 330) 80 _ _ _ _ _ _ ?_
      simp only [hle, h12, bI_in, bI_0, bI_1, bI_t, bI_f, bI_01, ae_bipush, ae_if_icmp, ae_iload, dL_build_222, dL_build_224, dL_build_226, dL_build_229, dL_build_231, dL_build_233, ca_L_build_33, ca_L_build_34, ca_L_build_40, ca_L_build_47, ca_L_build_51, ab_wp0, ab_wps, ab_stp, ab_g, ab_st, ab_k2, ab_cl, ab_pop, ab_sz, ab_2, ab_ret, ab_f4, ab_tg, ab_I, ab_II, ab_A, ab_Rf, ab_VR, ab_IR, ab_VIR, ab_1, ab_LL, ab_DD, ab_ob, ab_pr, ab_qr, ab_ln, ab_so, ab_vI, ab_vA, ab_vD, ab_vL, ab_v2, ab_c, ab_fit, ab_rv, ab_tsw, ab_lsw, ab_up_eq, Fin.isValue, ab_f0, ab_f1, ab_f2, ab_f3, List.getElem?_cons_zero, List.getElem?_cons_succ, List.set_cons_zero, List.set_cons_succ, List.length_cons, List.length_nil, List.size_toArray, List.head?_cons, List.tail_cons, Option.map_some, cond_true, cond_false, true_and, and_true, false_and, and_false, not_true_eq_false, not_false_eq_true, true_imp_iff, false_imp_iff, if_true, if_false, ite_true, ite_false, ↓reduceIte, Nat.reduceAdd, Nat.reduceEqDiff, Nat.reduceLeDiff, Nat.reduceLT, Nat.reduceBEq, Nat.reduceBNe, Int.reduceAdd, Int.reduceNeg, Int.reduceSub, Int.reduceLE, Int.reduceLT, Int.reduceToNat, Int.reduceEq, Int.reduceMul, Int.cast_ofNat_Int, Nat.zero_add, Nat.add_zero, Nat.le_refl, eq_self, ne_eq, reduceCtorEq, or_true, true_or, or_false, false_or, Bool.or_true, Bool.or_false, Bool.true_or, Bool.false_or, Nat.zero_le, Int.le_refl, Int.ofNat_zero, Int.ofNat_one, Bool.false_eq_true]
      try simp only [ab_in]
      (repeat' (first | intro _ | refine And.intro ?_ ?_)) <;> (first | exact i0 | contradiction | omega | (exfalso; omega))
    · refine hV (fun p => bif p == 10 then true else bif p == 33 then true else bif p == 63 then true else bif p == 171 then true else bif p == 176 then true else bif p == 182 then true else bif p == 198 then true else bif p == 222 then true else bif p == 295 then true else p == 330) 80 _ _ _ _ _ _ ?_
      simp only [hle, h12, bI_in, bI_0, bI_1, bI_t, bI_f, bI_01, ae_bipush, ae_if_icmp, ae_iload, dL_build_222, dL_build_224, dL_build_226, dL_build_229, dL_build_231, dL_build_233, ca_L_build_33, ca_L_build_34, ca_L_build_40, ca_L_build_47, ca_L_build_51, ab_wp0, ab_wps, ab_stp, ab_g, ab_st, ab_k2, ab_cl, ab_pop, ab_sz, ab_2, ab_ret, ab_f4, ab_tg, ab_I, ab_II, ab_A, ab_Rf, ab_VR, ab_IR, ab_VIR, ab_1, ab_LL, ab_DD, ab_ob, ab_pr, ab_qr, ab_ln, ab_so, ab_vI, ab_vA, ab_vD, ab_vL, ab_v2, ab_c, ab_fit, ab_rv, ab_tsw, ab_lsw, ab_up_eq, Fin.isValue, ab_f0, ab_f1, ab_f2, ab_f3, List.getElem?_cons_zero, List.getElem?_cons_succ, List.set_cons_zero, List.set_cons_succ, List.length_cons, List.length_nil, List.size_toArray, List.head?_cons, List.tail_cons, Option.map_some, cond_true, cond_false, true_and, and_true, false_and, and_false, not_true_eq_false, not_false_eq_true, true_imp_iff, false_imp_iff, if_true, if_false, ite_true, ite_false, ↓reduceIte, Nat.reduceAdd, Nat.reduceEqDiff, Nat.reduceLeDiff, Nat.reduceLT, Nat.reduceBEq, Nat.reduceBNe, Int.reduceAdd, Int.reduceNeg, Int.reduceSub, Int.reduceLE, Int.reduceLT, Int.reduceToNat, Int.reduceEq, Int.reduceMul, Int.cast_ofNat_Int, Nat.zero_add, Nat.add_zero, Nat.le_refl, eq_self, ne_eq, reduceCtorEq, or_true, true_or, or_false, false_or, Bool.or_true, Bool.or_false, Bool.true_or, Bool.false_or, Nat.zero_le, Int.le_refl, Int.ofNat_zero, Int.ofNat_one, Bool.false_eq_true]
      try simp only [ab_in]
      (repeat' (first | intro _ | refine And.intro ?_ ?_)) <;> (first | exact i0 | contradiction | omega | (exfalso; omega))
  | succ m ih =>
    intro kk x w7 w8 h1 k z hk h0 hx hkc hzc hq
    have hlt : ¬ 8 ≤ kk := by omega
    by_cases h12 : 12 ≤ x
    · have i0 := hE x (some (.inl kk)) w7 w8 h1 k z (by omega) (by omega) hq
      clear hE ih
      refine hV (fun p => bif p == 10 then true else bif p == 33 then true else bif p == 63 then true else bif p == 171 then true else bif p == 176 then true else bif p == 182 then true else bif p == 198 then true else bif p == 222 then true else bif p == 295 then true else p == 330) 80 _ _ _ _ _ _ ?_
      simp only [h12, bI_in, bI_0, bI_1, bI_t, bI_f, bI_01, ae_bipush, ae_if_icmp, ae_iload, dL_build_222, dL_build_224, dL_build_226, dL_build_229, dL_build_231, dL_build_233, ca_L_build_33, ca_L_build_34, ca_L_build_40, ca_L_build_47, ca_L_build_51, ab_wp0, ab_wps, ab_stp, ab_g, ab_st, ab_k2, ab_cl, ab_pop, ab_sz, ab_2, ab_ret, ab_f4, ab_tg, ab_I, ab_II, ab_A, ab_Rf, ab_VR, ab_IR, ab_VIR, ab_1, ab_LL, ab_DD, ab_ob, ab_pr, ab_qr, ab_ln, ab_so, ab_vI, ab_vA, ab_vD, ab_vL, ab_v2, ab_c, ab_fit, ab_rv, ab_tsw, ab_lsw, ab_up_eq, Fin.isValue, ab_f0, ab_f1, ab_f2, ab_f3, List.getElem?_cons_zero, List.getElem?_cons_succ, List.set_cons_zero, List.set_cons_succ, List.length_cons, List.length_nil, List.size_toArray, List.head?_cons, List.tail_cons, Option.map_some, cond_true, cond_false, true_and, and_true, false_and, and_false, not_true_eq_false, not_false_eq_true, true_imp_iff, false_imp_iff, if_true, if_false, ite_true, ite_false, ↓reduceIte, Nat.reduceAdd, Nat.reduceEqDiff, Nat.reduceLeDiff, Nat.reduceLT, Nat.reduceBEq, Nat.reduceBNe, Int.reduceAdd, Int.reduceNeg, Int.reduceSub, Int.reduceLE, Int.reduceLT, Int.reduceToNat, Int.reduceEq, Int.reduceMul, Int.cast_ofNat_Int, Nat.zero_add, Nat.add_zero, Nat.le_refl, eq_self, ne_eq, reduceCtorEq, or_true, true_or, or_false, false_or, Bool.or_true, Bool.or_false, Bool.true_or, Bool.false_or, Nat.zero_le, Int.le_refl, Int.ofNat_zero, Int.ofNat_one, Bool.false_eq_true]
      try simp only [ab_in]
      (repeat' (first | intro _ | refine And.intro ?_ ?_)) <;> (first | exact i0 | contradiction | omega | (exfalso; omega))
    · obtain ⟨v, N, M, p, hd, fo, fr⟩ := id hq
      have hsr := sr_of p.1
      have hsm := sim_of p.2.1
      have hgT : Good v.1 M = True := eq_true p.2.2.1
      have hTT : TabR v.2.2.2 M = True := eq_true p.2.2.2
      have hsc1 := sc_keep fo hsc hbr
      have nxt : ∀ (h2 : AH) (its wide : Int), (1 ≤ wide ∧ wide ≤ 4) → LwQ h1 h2 r s A N M.day → V 295 [some (.inr (.inl (some r))), some (.inr (.inl (some b))), some (.inr (.inl (some s))), some (.inl (rows)), some (.inl (y)), some (.inl (x)), some (.inl (kk)), some (.inl (its)), some (.inl (wide))] [.inl 1] h2 (k + 2) (z + 206) := by
        intro h2 its wide hw q
        have hq2 := bq_step p hd fo fr q
        have i1 := ih (kk + 1) (x + (wide + 1)) (some (.inl its)) (some (.inl wide)) h2 (k + 2) (z + 206) (by omega) (by omega) (by omega) (by omega) (by omega) hq2
        have i2 := ih (kk + 1) (x + (wide + 0)) (some (.inl its)) (some (.inl wide)) h2 (k + 2) (z + 206) (by omega) (by omega) (by omega) (by omega) (by omega) hq2
        have r3 := below_r (v := (Int32.ofInt its >>> (Int32.ofInt 4 &&& 31)).toInt) (n := 3) (by omega)
        clear ih hE hq hq2 p fo fr q hgT hTT
        refine hV (fun p => bif p == 10 then true else bif p == 33 then true else bif p == 63 then true else bif p == 171 then true else bif p == 176 then true else bif p == 182 then true else bif p == 198 then true else bif p == 222 then true else p == 330) 80 _ _ _ _ _ _ ?_
        simp only [bI_in, bI_0, bI_1, bI_t, bI_f, bI_01, Tr_L_below, ae_aconst_null, ae_areturn, ae_goto, ae_iadd, ae_iconst, ae_ifCond, ae_iinc, ae_iload, ae_invokestatic, ae_ishr, ae_istore, dL_build_295, dL_build_298, dL_build_299, dL_build_300, dL_build_302, dL_build_304, dL_build_306, dL_build_307, dL_build_308, dL_build_309, dL_build_312, dL_build_315, dL_build_316, dL_build_319, dL_build_320, dL_build_321, dL_build_322, dL_build_324, dL_build_327, ca_L_build_33, ca_L_build_34, ca_L_build_40, ca_L_build_47, ca_L_build_51, ab_wp0, ab_wps, ab_stp, ab_g, ab_st, ab_k2, ab_cl, ab_pop, ab_sz, ab_2, ab_ret, ab_f4, ab_tg, ab_I, ab_II, ab_A, ab_Rf, ab_VR, ab_IR, ab_VIR, ab_1, ab_LL, ab_DD, ab_ob, ab_pr, ab_qr, ab_ln, ab_so, ab_vI, ab_vA, ab_vD, ab_vL, ab_v2, ab_c, ab_fit, ab_rv, ab_tsw, ab_lsw, ab_up_eq, Fin.isValue, ab_f0, ab_f1, ab_f2, ab_f3, List.getElem?_cons_zero, List.getElem?_cons_succ, List.set_cons_zero, List.set_cons_succ, List.length_cons, List.length_nil, List.size_toArray, List.head?_cons, List.tail_cons, Option.map_some, cond_true, cond_false, true_and, and_true, false_and, and_false, not_true_eq_false, not_false_eq_true, true_imp_iff, false_imp_iff, if_true, if_false, ite_true, ite_false, ↓reduceIte, Nat.reduceAdd, Nat.reduceEqDiff, Nat.reduceLeDiff, Nat.reduceLT, Nat.reduceBEq, Nat.reduceBNe, Int.reduceAdd, Int.reduceNeg, Int.reduceSub, Int.reduceLE, Int.reduceLT, Int.reduceToNat, Int.reduceEq, Int.reduceMul, Int.cast_ofNat_Int, Nat.zero_add, Nat.add_zero, Nat.le_refl, eq_self, ne_eq, reduceCtorEq, or_true, true_or, or_false, false_or, Bool.or_true, Bool.or_false, Bool.true_or, Bool.false_or, Nat.zero_le, Int.le_refl, Int.ofNat_zero, Int.ofNat_one, Bool.false_eq_true]
        try simp only [ab_in]
        (repeat' (first | intro _ | refine And.intro ?_ ?_)) <;> (first | exact i1 | exact i2 | exact rfl | contradiction | omega | (exfalso; omega))
      have nxt2 : ∀ (h2 : AH) (its : Int), LwQ h1 h2 r s A N M.day → V 295 [some (.inr (.inl (some r))), some (.inr (.inl (some b))), some (.inr (.inl (some s))), some (.inl (rows)), some (.inl (y)), some (.inl (x)), some (.inl (kk)), some (.inl (its)), some (.inl (1 + belowF its 4))] [.inl 1] h2 (k + 2) (z + 206) := fun h2 its q => nxt h2 its (1 + belowF its 4) (by have := below_r (v := its) (n := 4) (by omega); omega) q
      clear ih hE nxt hq p fo fr
      have hkm : Int.tmod kk 4 = kk % 4 := Int.tmod_eq_emod_of_nonneg h0
      have r4 : ∀ v, 0 ≤ belowF v 4 ∧ belowF v 4 < 4 := fun v => below_r (by omega)
      have r3 : ∀ v, 0 ≤ belowF v 3 ∧ belowF v 3 < 3 := fun v => below_r (by omega)
      have at264 : ∀ (its : Int) (w8 : Option AV), V 264 [some (.inr (.inl (some r))), some (.inr (.inl (some b))), some (.inr (.inl (some s))), some (.inl (rows)), some (.inl (y)), some (.inl (x)), some (.inl (kk)), some (.inl (its)), w8] [] h1 k z := by
        intro its w8
        have a1 := r4 its
        have a2 := r3 (Int32.ofInt its >>> (Int32.ofInt 2 &&& 31)).toInt
        clear r4 r3
        refine hV (fun p => bif p == 10 then true else bif p == 33 then true else bif p == 63 then true else bif p == 171 then true else bif p == 176 then true else bif p == 182 then true else bif p == 198 then true else bif p == 222 then true else bif p == 295 then true else p == 330) 80 _ _ _ _ _ _ ?_
        simp only [hsr, hsm, hgT, hTT, bI_in, bI_0, bI_1, bI_t, bI_f, bI_01, Tr_L_below, Tr_L_lays, ae_aload_n, ae_iadd, ae_iconst, ae_iload, ae_invokestatic, ae_ishr, ae_istore, dL_build_264, dL_build_265, dL_build_267, dL_build_268, dL_build_271, dL_build_272, dL_build_274, dL_build_275, dL_build_276, dL_build_278, dL_build_280, dL_build_282, dL_build_283, dL_build_285, dL_build_286, dL_build_287, dL_build_288, dL_build_291, dL_build_292, ca_L_build_33, ca_L_build_34, ca_L_build_40, ca_L_build_47, ca_L_build_51, ab_wp0, ab_wps, ab_stp, ab_g, ab_st, ab_k2, ab_cl, ab_pop, ab_sz, ab_2, ab_ret, ab_f4, ab_tg, ab_I, ab_II, ab_A, ab_Rf, ab_VR, ab_IR, ab_VIR, ab_1, ab_LL, ab_DD, ab_ob, ab_pr, ab_qr, ab_ln, ab_so, ab_vI, ab_vA, ab_vD, ab_vL, ab_v2, ab_c, ab_fit, ab_rv, ab_tsw, ab_lsw, ab_up_eq, Fin.isValue, ab_f0, ab_f1, ab_f2, ab_f3, List.getElem?_cons_zero, List.getElem?_cons_succ, List.set_cons_zero, List.set_cons_succ, List.length_cons, List.length_nil, List.size_toArray, List.head?_cons, List.tail_cons, Option.map_some, cond_true, cond_false, true_and, and_true, false_and, and_false, not_true_eq_false, not_false_eq_true, true_imp_iff, false_imp_iff, if_true, if_false, ite_true, ite_false, ↓reduceIte, Nat.reduceAdd, Nat.reduceEqDiff, Nat.reduceLeDiff, Nat.reduceLT, Nat.reduceBEq, Nat.reduceBNe, Int.reduceAdd, Int.reduceNeg, Int.reduceSub, Int.reduceLE, Int.reduceLT, Int.reduceToNat, Int.reduceEq, Int.reduceMul, Int.cast_ofNat_Int, Nat.zero_add, Nat.add_zero, Nat.le_refl, eq_self, ne_eq, reduceCtorEq, or_true, true_or, or_false, false_or, Bool.or_true, Bool.or_false, Bool.true_or, Bool.false_or, Nat.zero_le, Int.le_refl, Int.ofNat_zero, Int.ofNat_one, Bool.false_eq_true]
        try simp only [ab_in]
        (repeat' (first | intro _ | refine And.intro ?_ ?_)) <;> (first | exact nxt2 _ _ (by assumption) | exact rfl | contradiction | omega | (exfalso; omega))
      clear r4 r3 nxt2 hgT hTT hsr hsm
      refine hV (fun p => bif p == 264 then true else bif p == 10 then true else bif p == 33 then true else bif p == 63 then true else bif p == 171 then true else bif p == 176 then true else bif p == 182 then true else bif p == 198 then true else bif p == 222 then true else bif p == 295 then true else p == 330) 80 _ _ _ _ _ _ ?_
      simp only [h12, hlt, hkm, hsc1, bI_in, bI_0, bI_1, bI_t, bI_f, bI_01, Tr_L_cell, ae_aload_n, ae_bipush, ae_iadd, ae_iconst, ae_if_icmp, ae_iload, ae_imul, ae_invokestatic, ae_irem, ae_ishr, ae_istore, dL_build_222, dL_build_224, dL_build_226, dL_build_229, dL_build_231, dL_build_233, dL_build_236, dL_build_237, dL_build_239, dL_build_241, dL_build_242, dL_build_243, dL_build_244, dL_build_247, dL_build_249, dL_build_250, dL_build_252, dL_build_254, dL_build_255, dL_build_256, dL_build_258, dL_build_260, dL_build_261, dL_build_262, ca_L_build_33, ca_L_build_34, ca_L_build_40, ca_L_build_47, ca_L_build_51, ab_wp0, ab_wps, ab_stp, ab_g, ab_st, ab_k2, ab_cl, ab_pop, ab_sz, ab_2, ab_ret, ab_f4, ab_tg, ab_I, ab_II, ab_A, ab_Rf, ab_VR, ab_IR, ab_VIR, ab_1, ab_LL, ab_DD, ab_ob, ab_pr, ab_qr, ab_ln, ab_so, ab_vI, ab_vA, ab_vD, ab_vL, ab_v2, ab_c, ab_fit, ab_rv, ab_tsw, ab_lsw, ab_up_eq, Fin.isValue, ab_f0, ab_f1, ab_f2, ab_f3, List.getElem?_cons_zero, List.getElem?_cons_succ, List.set_cons_zero, List.set_cons_succ, List.length_cons, List.length_nil, List.size_toArray, List.head?_cons, List.tail_cons, Option.map_some, cond_true, cond_false, true_and, and_true, false_and, and_false, not_true_eq_false, not_false_eq_true, true_imp_iff, false_imp_iff, if_true, if_false, ite_true, ite_false, ↓reduceIte, Nat.reduceAdd, Nat.reduceEqDiff, Nat.reduceLeDiff, Nat.reduceLT, Nat.reduceBEq, Nat.reduceBNe, Int.reduceAdd, Int.reduceNeg, Int.reduceSub, Int.reduceLE, Int.reduceLT, Int.reduceToNat, Int.reduceEq, Int.reduceMul, Int.cast_ofNat_Int, Nat.zero_add, Nat.add_zero, Nat.le_refl, eq_self, ne_eq, reduceCtorEq, or_true, true_or, or_false, false_or, Bool.or_true, Bool.or_false, Bool.true_or, Bool.false_or, Nat.zero_le, Int.le_refl, Int.ofNat_zero, Int.ofNat_one, Bool.false_eq_true]
      try simp only [ab_in]
      (repeat' (first | intro _ | refine And.intro ?_ ?_)) <;> (first | exact at264 _ _ | exact rfl | contradiction | omega | (exfalso; omega))
set_option maxRecDepth 100000 in
set_option maxHeartbeats 4000000 in
theorem build_y {base : Nat} {K : Option AV → AH → Prop} {V : AVt} {h : AH} {r s b nb : Nat} {A : SA} {fb : Int → Int} (hV : ab_Hv tbL lw_ts base cL_build ca_L_build 3 160 13400 K V) (hsc : h b = some (.inr (.inl (9, nb, fb)))) (hnb : nb ≤ 300) (hbr : b ∉ r :: srL A) (hK : ∀ h', BQ h h' r s A → K (some (.inr (.inl (some s)))) h') {rows : Int} (hrw : 1 ≤ rows ∧ rows ≤ 8) :
    ∀ (m : Nat) (y : Int) (w5 w6 w7 w8 : Option AV) (h1 : AH) (k z : Nat), y + m = rows → 0 ≤ y → (k : Int) ≤ 30 + 16 * y → (z : Int) ≤ 200 + 1648 * y → BQ h h1 r s A → V 198 [some (.inr (.inl (some r))), some (.inr (.inl (some b))), some (.inr (.inl (some s))), some (.inl (rows)), some (.inl (y)), w5, w6, w7, w8] [] h1 k z := by
  intro m
  induction m with
  | zero =>
    intro y w5 w6 w7 w8 h1 k z hy h0 hkc hzc hq
    have e : y = rows := by omega
    subst e
    have hk2 := hK h1 hq
    have hle : y ≤ y := Int.le_refl _
    refine hV (fun p => p == 222) 80 _ _ _ _ _ _ ?_
    simp only [hle, bI_in, bI_0, bI_1, bI_t, bI_f, bI_01, ae_if_icmp, ae_iload, ae_iload_n, dL_build_198, dL_build_200, dL_build_201, ca_L_build_33, ca_L_build_34, ca_L_build_40, ca_L_build_47, ca_L_build_51, ab_wp0, ab_wps, ab_stp, ab_g, ab_st, ab_k2, ab_cl, ab_pop, ab_sz, ab_2, ab_ret, ab_f4, ab_tg, ab_I, ab_II, ab_A, ab_Rf, ab_VR, ab_IR, ab_VIR, ab_1, ab_LL, ab_DD, ab_ob, ab_pr, ab_qr, ab_ln, ab_so, ab_vI, ab_vA, ab_vD, ab_vL, ab_v2, ab_c, ab_fit, ab_rv, ab_tsw, ab_lsw, ab_up_eq, Fin.isValue, ab_f0, ab_f1, ab_f2, ab_f3, List.getElem?_cons_zero, List.getElem?_cons_succ, List.set_cons_zero, List.set_cons_succ, List.length_cons, List.length_nil, List.size_toArray, List.head?_cons, List.tail_cons, Option.map_some, cond_true, cond_false, true_and, and_true, false_and, and_false, not_true_eq_false, not_false_eq_true, true_imp_iff, false_imp_iff, if_true, if_false, ite_true, ite_false, ↓reduceIte, Nat.reduceAdd, Nat.reduceEqDiff, Nat.reduceLeDiff, Nat.reduceLT, Nat.reduceBEq, Nat.reduceBNe, Int.reduceAdd, Int.reduceNeg, Int.reduceSub, Int.reduceLE, Int.reduceLT, Int.reduceToNat, Int.reduceEq, Int.reduceMul, Int.cast_ofNat_Int, Nat.zero_add, Nat.add_zero, Nat.le_refl, eq_self, ne_eq, reduceCtorEq, or_true, true_or, or_false, false_or, Bool.or_true, Bool.or_false, Bool.true_or, Bool.false_or, Nat.zero_le, Int.le_refl, Int.ofNat_zero, Int.ofNat_one, Bool.false_eq_true, ae_aload_n, ae_areturn, dL_build_336, dL_build_337, ca_L_build_33, ca_L_build_34, ca_L_build_40, ca_L_build_47, ca_L_build_51, ab_wp0, ab_wps, ab_stp, ab_g, ab_st, ab_k2, ab_cl, ab_pop, ab_sz, ab_2, ab_ret, ab_f4, ab_tg, ab_I, ab_II, ab_A, ab_Rf, ab_VR, ab_IR, ab_VIR, ab_1, ab_LL, ab_DD, ab_ob, ab_pr, ab_qr, ab_ln, ab_so, ab_vI, ab_vA, ab_vD, ab_vL, ab_v2, ab_c, ab_fit, ab_rv, ab_tsw, ab_lsw, ab_up_eq, Fin.isValue, ab_f0, ab_f1, ab_f2, ab_f3, List.getElem?_cons_zero, List.getElem?_cons_succ, List.set_cons_zero, List.set_cons_succ, List.length_cons, List.length_nil, List.size_toArray, List.head?_cons, List.tail_cons, Option.map_some, cond_true, cond_false, true_and, and_true, false_and, and_false, not_true_eq_false, not_false_eq_true, true_imp_iff, false_imp_iff, if_true, if_false, ite_true, ite_false, ↓reduceIte, Nat.reduceAdd, Nat.reduceEqDiff, Nat.reduceLeDiff, Nat.reduceLT, Nat.reduceBEq, Nat.reduceBNe, Int.reduceAdd, Int.reduceNeg, Int.reduceSub, Int.reduceLE, Int.reduceLT, Int.reduceToNat, Int.reduceEq, Int.reduceMul, Int.cast_ofNat_Int, Nat.zero_add, Nat.add_zero, Nat.le_refl, eq_self, ne_eq, reduceCtorEq, or_true, true_or, or_false, false_or, Bool.or_true, Bool.or_false, Bool.true_or, Bool.false_or, Nat.zero_le, Int.le_refl, Int.ofNat_zero, Int.ofNat_one, Bool.false_eq_true]
    try simp only [ab_in]
    (repeat' (first | intro _ | refine And.intro ?_ ?_)) <;> (first | exact hk2 | exact rfl | contradiction | omega | (exfalso; omega))
  | succ m ih =>
    intro y w5 w6 w7 w8 h1 k z hy h0 hkc hzc hq
    have hlt : ¬ rows ≤ y := by omega
    have i0 := fun (x : Int) hx => build_x hV hsc hnb hbr (rows := rows) (y := y) (by omega) (k9 := k) (z9 := z) (by omega) (fun x w6 w7 w8 h2 k2 z2 q1 q2 q3 => by
      have i1 := ih (y + 1) (some (.inl x)) w6 w7 w8 h2 k2 z2 (by omega) (by omega) (by omega) (by omega) q3
      clear ih
      refine hV (fun p => p == 198) 80 _ _ _ _ _ _ ?_
      simp only [bI_in, bI_0, bI_1, bI_t, bI_f, bI_01, ae_goto, ae_iinc, dL_build_330, dL_build_333, ca_L_build_33, ca_L_build_34, ca_L_build_40, ca_L_build_47, ca_L_build_51, ab_wp0, ab_wps, ab_stp, ab_g, ab_st, ab_k2, ab_cl, ab_pop, ab_sz, ab_2, ab_ret, ab_f4, ab_tg, ab_I, ab_II, ab_A, ab_Rf, ab_VR, ab_IR, ab_VIR, ab_1, ab_LL, ab_DD, ab_ob, ab_pr, ab_qr, ab_ln, ab_so, ab_vI, ab_vA, ab_vD, ab_vL, ab_v2, ab_c, ab_fit, ab_rv, ab_tsw, ab_lsw, ab_up_eq, Fin.isValue, ab_f0, ab_f1, ab_f2, ab_f3, List.getElem?_cons_zero, List.getElem?_cons_succ, List.set_cons_zero, List.set_cons_succ, List.length_cons, List.length_nil, List.size_toArray, List.head?_cons, List.tail_cons, Option.map_some, cond_true, cond_false, true_and, and_true, false_and, and_false, not_true_eq_false, not_false_eq_true, true_imp_iff, false_imp_iff, if_true, if_false, ite_true, ite_false, ↓reduceIte, Nat.reduceAdd, Nat.reduceEqDiff, Nat.reduceLeDiff, Nat.reduceLT, Nat.reduceBEq, Nat.reduceBNe, Int.reduceAdd, Int.reduceNeg, Int.reduceSub, Int.reduceLE, Int.reduceLT, Int.reduceToNat, Int.reduceEq, Int.reduceMul, Int.cast_ofNat_Int, Nat.zero_add, Nat.add_zero, Nat.le_refl, eq_self, ne_eq, reduceCtorEq, or_true, true_or, or_false, false_or, Bool.or_true, Bool.or_false, Bool.true_or, Bool.false_or, Nat.zero_le, Int.le_refl, Int.ofNat_zero, Int.ofNat_one, Bool.false_eq_true]
      try simp only [ab_in]
      (repeat' (first | intro _ | refine And.intro ?_ ?_)) <;> (first | exact i1 | contradiction | omega | (exfalso; omega))) 8 0 x w7 w8 h1 k z (by omega) (by omega) hx (by omega) (by omega) hq
    obtain ⟨v, N, M, p, hd, fo, fr⟩ := id hq
    have hsc1 := sc_keep fo hsc hbr
    clear ih p fo fr hq
    have at219 : ∀ v9 : Int, V 217 [some (.inr (.inl (some r))), some (.inr (.inl (some b))), some (.inr (.inl (some s))), some (.inl (rows)), some (.inl (y)), w5, w6, w7, w8] [.inl (belowF v9 3)] h1 k z := by
      intro v9
      have r3 := below_r (v := v9) (n := 3) (by omega)
      have i2 := i0 (belowF v9 3) (by omega)
      clear i0
      refine hV (fun p => p == 222) 80 _ _ _ _ _ _ ?_
      simp only [bI_in, bI_0, bI_1, bI_t, bI_f, bI_01, ae_iconst, ae_istore, dL_build_217, dL_build_219, dL_build_220, ca_L_build_33, ca_L_build_34, ca_L_build_40, ca_L_build_47, ca_L_build_51, ab_wp0, ab_wps, ab_stp, ab_g, ab_st, ab_k2, ab_cl, ab_pop, ab_sz, ab_2, ab_ret, ab_f4, ab_tg, ab_I, ab_II, ab_A, ab_Rf, ab_VR, ab_IR, ab_VIR, ab_1, ab_LL, ab_DD, ab_ob, ab_pr, ab_qr, ab_ln, ab_so, ab_vI, ab_vA, ab_vD, ab_vL, ab_v2, ab_c, ab_fit, ab_rv, ab_tsw, ab_lsw, ab_up_eq, Fin.isValue, ab_f0, ab_f1, ab_f2, ab_f3, List.getElem?_cons_zero, List.getElem?_cons_succ, List.set_cons_zero, List.set_cons_succ, List.length_cons, List.length_nil, List.size_toArray, List.head?_cons, List.tail_cons, Option.map_some, cond_true, cond_false, true_and, and_true, false_and, and_false, not_true_eq_false, not_false_eq_true, true_imp_iff, false_imp_iff, if_true, if_false, ite_true, ite_false, ↓reduceIte, Nat.reduceAdd, Nat.reduceEqDiff, Nat.reduceLeDiff, Nat.reduceLT, Nat.reduceBEq, Nat.reduceBNe, Int.reduceAdd, Int.reduceNeg, Int.reduceSub, Int.reduceLE, Int.reduceLT, Int.reduceToNat, Int.reduceEq, Int.reduceMul, Int.cast_ofNat_Int, Nat.zero_add, Nat.add_zero, Nat.le_refl, eq_self, ne_eq, reduceCtorEq, or_true, true_or, or_false, false_or, Bool.or_true, Bool.or_false, Bool.true_or, Bool.false_or, Nat.zero_le, Int.le_refl, Int.ofNat_zero, Int.ofNat_one, Bool.false_eq_true]
      try simp only [ab_in]
      (repeat' (first | intro _ | refine And.intro ?_ ?_)) <;> (first | exact i2 | contradiction | omega | (exfalso; omega))
    clear i0
    refine hV (fun p => bif p == 217 then true else p == 336) 80 _ _ _ _ _ _ ?_
    simp only [hlt, hsc1, bI_in, bI_0, bI_1, bI_t, bI_f, bI_01, Tr_L_cell, Tr_L_below, ae_aload_n, ae_bipush, ae_iconst, ae_if_icmp, ae_iload, ae_iload_n, ae_invokestatic, ae_ishr, dL_build_198, dL_build_200, dL_build_201, dL_build_204, dL_build_205, dL_build_207, dL_build_210, dL_build_212, dL_build_213, dL_build_214, ca_L_build_33, ca_L_build_34, ca_L_build_40, ca_L_build_47, ca_L_build_51, ab_wp0, ab_wps, ab_stp, ab_g, ab_st, ab_k2, ab_cl, ab_pop, ab_sz, ab_2, ab_ret, ab_f4, ab_tg, ab_I, ab_II, ab_A, ab_Rf, ab_VR, ab_IR, ab_VIR, ab_1, ab_LL, ab_DD, ab_ob, ab_pr, ab_qr, ab_ln, ab_so, ab_vI, ab_vA, ab_vD, ab_vL, ab_v2, ab_c, ab_fit, ab_rv, ab_tsw, ab_lsw, ab_up_eq, Fin.isValue, ab_f0, ab_f1, ab_f2, ab_f3, List.getElem?_cons_zero, List.getElem?_cons_succ, List.set_cons_zero, List.set_cons_succ, List.length_cons, List.length_nil, List.size_toArray, List.head?_cons, List.tail_cons, Option.map_some, cond_true, cond_false, true_and, and_true, false_and, and_false, not_true_eq_false, not_false_eq_true, true_imp_iff, false_imp_iff, if_true, if_false, ite_true, ite_false, ↓reduceIte, Nat.reduceAdd, Nat.reduceEqDiff, Nat.reduceLeDiff, Nat.reduceLT, Nat.reduceBEq, Nat.reduceBNe, Int.reduceAdd, Int.reduceNeg, Int.reduceSub, Int.reduceLE, Int.reduceLT, Int.reduceToNat, Int.reduceEq, Int.reduceMul, Int.cast_ofNat_Int, Nat.zero_add, Nat.add_zero, Nat.le_refl, eq_self, ne_eq, reduceCtorEq, or_true, true_or, or_false, false_or, Bool.or_true, Bool.or_false, Bool.true_or, Bool.false_or, Nat.zero_le, Int.le_refl, Int.ofNat_zero, Int.ofNat_one, Bool.false_eq_true]
    try simp only [ab_in]
    (repeat' (first | intro _ | refine And.intro ?_ ?_)) <;> (first | exact at219 _ | exact rfl | contradiction | omega | (exfalso; omega))
set_option maxRecDepth 100000 in
set_option maxHeartbeats 4000000 in
/-- the days' table: the new row is told to the class -/
theorem build_s {base : Nat} {K : Option AV → AH → Prop} {V : AVt} {h : AH} {r s b nb : Nat} {A : SA} {fb : Int → Int} (hV : ab_Hv tbL lw_ts base cL_build ca_L_build 3 160 13400 K V) (hsc : h b = some (.inr (.inl (9, nb, fb)))) (hnb : nb ≤ 300) (hbr : b ∉ r :: srL A) {kk x a9 b9 c9 e9 : Int} {g : Nat} {h1 : AH} {k z : Nat} {S O : RS} {fc : Int → Int} {T : TS} {N : SN} {M : SM} (hkk : 0 ≤ kk ∧ kk ≤ 6) (hr4 : (0 ≤ a9 ∧ a9 ≤ 20) ∧ (b9 = 0 ∨ b9 = 1) ∧ (0 ≤ c9 ∧ c9 ≤ 9) ∧ (0 ≤ e9 ∧ e9 ≤ 9))
    (p : LwP h1 r s A (S, O, fc, T) N M) (hg0 : h1 g = none) (ht0 : toldF T kk = 0) (hkz : k ≤ 160 ∧ z ≤ 13400)
    (hE : ∀ h2, LwP h2 r s A (S, O, fc, wrF T kk a9 b9 c9 e9) (N.1, N.2.1, N.2.2.1, N.2.2.2.1, N.2.2.2.2.1, ab_uf N.2.2.2.2.2 kk (some g)) (M.s_dy (ab_uf M.dy kk (ab_uf (ab_uf (ab_uf (ab_uf (fun _ => 0) 0 a9) 1 b9) 2 c9) 3 e9))) → LwQ h1 h2 r s A N M.day → V 176 [some (.inr (.inl (some r))), some (.inr (.inl (some b))), some (.inr (.inl (some s))), some (.inl (kk)), some (.inl (x)), none, none, none, none] [] h2 k z) :
    V 125 [some (.inr (.inl (some r))), some (.inr (.inl (some b))), some (.inr (.inl (some s))), some (.inl (kk)), some (.inl (x)), none, none, none, none] [] (ab_up (ab_up h1 g (.inr (.inl (0, 4, ab_uf (ab_uf (ab_uf (ab_uf (fun _ => 0) 0 a9) 1 b9) 2 c9) 3 e9)))) N.2.2.2.2.1 (.inr (.inr (3, 7, ab_uf N.2.2.2.2.2 kk (some g))))) k z := by
  obtain ⟨hA, hB, hg, hT⟩ := id p
  obtain ⟨u0, u1, u2, u3⟩ := uf4 (fun _ => 0) a9 b9 c9 e9
  obtain ⟨r0, r1, r2, r3⟩ := id hr4
  have g1 := sim_dyn hB hg0 hkk.1 (by omega) (v := ab_uf (ab_uf (ab_uf (ab_uf (fun _ => 0) 0 a9) 1 b9) 2 c9) 3 e9) (by unfold dyB; rw [u0, u1, u2, u3]; exact hr4)
  have hdn : ¬ g = N.2.2.2.2.1 := by rintro rfl; exact sim_nn hB (Or.inr (Or.inr (Or.inr (Or.inl rfl)))) hg0
  have hgc : ab_up (ab_up h1 g (.inr (.inl (0, 4, ab_uf (ab_uf (ab_uf (ab_uf (fun _ => 0) 0 a9) 1 b9) 2 c9) 3 e9)))) N.2.2.2.2.1 (.inr (.inr (3, 7, ab_uf N.2.2.2.2.2 kk (some g)))) g = some (.inr (.inl (0, 4, ab_uf (ab_uf (ab_uf (ab_uf (fun _ => 0) 0 a9) 1 b9) 2 c9) 3 e9))) := by
    rw [ab_up_ap, if_neg hdn, ab_up_eq]
  have fo1 : ab_fo h1 (ab_up (ab_up h1 g (.inr (.inl (0, 4, ab_uf (ab_uf (ab_uf (ab_uf (fun _ => 0) 0 a9) 1 b9) 2 c9) 3 e9)))) N.2.2.2.2.1 (.inr (.inr (3, 7, ab_uf N.2.2.2.2.2 kk (some g))))) (simIn N s) := (ab_fo.rf.up2 (Or.inr hg0)).up2 (Or.inl (Or.inr (Or.inr (Or.inr (Or.inl rfl)))))
  have hin : ∀ b, simIn (N.1, N.2.1, N.2.2.1, N.2.2.2.1, N.2.2.2.2.1, ab_uf N.2.2.2.2.2 kk (some g)) s b → simIn N s b ∨ h1 b = none := by
    intro b hb
    rcases hb with q | q | q | q | q | q | ⟨j, q⟩
    · exact Or.inl (Or.inl q)
    · exact Or.inl (Or.inr (Or.inl q))
    · exact Or.inl (Or.inr (Or.inr (Or.inl q)))
    · exact Or.inl (Or.inr (Or.inr (Or.inr (Or.inl q))))
    · exact Or.inl (Or.inr (Or.inr (Or.inr (Or.inr (Or.inl q)))))
    · exact Or.inl (Or.inr (Or.inr (Or.inr (Or.inr (Or.inr (Or.inl q))))))
    · simp only [ab_uf] at q
      split at q
      · cases q; exact Or.inr hg0
      · exact Or.inl (simIn_d q)
  generalize hh2 : ab_up (ab_up h1 g (.inr (.inl (0, 4, ab_uf (ab_uf (ab_uf (ab_uf (fun _ => 0) 0 a9) 1 b9) 2 c9) 3 e9)))) N.2.2.2.2.1 (.inr (.inr (3, 7, ab_uf N.2.2.2.2.2 kk (some g)))) = h2 at *
  obtain ⟨g2, fo2⟩ := lp_sim p fo1
  have D := g1.2.1
  have D2 := g1.2.2.2.2.2.1
  have E := g2.1
  have hrg := sr_of g2
  dsimp only at D D2 E
  have hqq : ab_uf N.2.2.2.2.2 kk (some g) kk = some g := if_pos rfl
  have gt : TabR (wrF T kk a9 b9 c9 e9) (M.s_dy (ab_uf M.dy kk (ab_uf (ab_uf (ab_uf (ab_uf (fun _ => 0) 0 a9) 1 b9) 2 c9) 3 e9))) := by
    intro j j0 j1
    show ab_uf M.dy kk (ab_uf (ab_uf (ab_uf (ab_uf (fun _ => 0) 0 a9) 1 b9) 2 c9) 3 e9) j 0 = _ ∧ ab_uf M.dy kk (ab_uf (ab_uf (ab_uf (ab_uf (fun _ => 0) 0 a9) 1 b9) 2 c9) 3 e9) j 1 = _ ∧ ab_uf M.dy kk (ab_uf (ab_uf (ab_uf (ab_uf (fun _ => 0) 0 a9) 1 b9) 2 c9) 3 e9) j 2 = _ ∧ ab_uf M.dy kk (ab_uf (ab_uf (ab_uf (ab_uf (fun _ => 0) 0 a9) 1 b9) 2 c9) 3 e9) j 3 = _
    unfold wrF
    rw [show isDayF kk = true from decide_eq_true (by omega), cond_true]
    dsimp only
    by_cases hj : j = kk
    · subst hj
      have w9 : ab_uf M.dy j (ab_uf (ab_uf (ab_uf (ab_uf (fun _ => 0) 0 a9) 1 b9) 2 c9) 3 e9) j = ab_uf (ab_uf (ab_uf (ab_uf (fun _ => 0) 0 a9) 1 b9) 2 c9) 3 e9 := if_pos rfl
      rw [w9, u0, u1, u2, u3]
      exact ⟨(if_pos rfl).symm, (if_pos rfl).symm, (if_pos rfl).symm, (if_pos rfl).symm⟩
    · have w9 : ab_uf M.dy kk (ab_uf (ab_uf (ab_uf (ab_uf (fun _ => 0) 0 a9) 1 b9) 2 c9) 3 e9) j = M.dy j := if_neg hj
      rw [w9]
      have := hT j j0 j1
      exact ⟨this.1.trans (if_neg hj).symm, this.2.1.trans (if_neg hj).symm, this.2.2.1.trans (if_neg hj).symm, this.2.2.2.trans (if_neg hj).symm⟩
  have aft : ∀ h3, ab_sr h3 r = some (A, (S, O, fc, wrF T kk a9 b9 c9 e9)) → ab_fr h2 h3 [A.2.2.2.1, A.2.2.2.2.1, A.2.2.2.2.2.1, A.2.2.2.2.2.2.1, A.2.2.2.2.2.2.2] → V 171 [some (.inr (.inl (some r))), some (.inr (.inl (some b))), some (.inr (.inl (some s))), some (.inl (kk)), some (.inl (x)), none, none, none, none] [.inl 0] h3 k z := by
    intro h3 w1 w2
    have q1 := sr_el w1
    have q2 : simAt h3 s ((N.1, N.2.1, N.2.2.1, N.2.2.2.1, N.2.2.2.2.1, ab_uf N.2.2.2.2.2 kk (some g)), M.s_dy (ab_uf M.dy kk (ab_uf (ab_uf (ab_uf (ab_uf (fun _ => 0) 0 a9) 1 b9) 2 c9) 3 e9))) := sim_keep g1 (fun b hb => w2 b (fun q => sr_sim g2 g1 (in_tab r A b q) hb))
    have q3 : LwP h3 r s A (S, O, fc, wrF T kk a9 b9 c9 e9) (N.1, N.2.1, N.2.2.1, N.2.2.2.1, N.2.2.2.2.1, ab_uf N.2.2.2.2.2 kk (some g)) (M.s_dy (ab_uf M.dy kk (ab_uf (ab_uf (ab_uf (ab_uf (fun _ => 0) 0 a9) 1 b9) 2 c9) 3 e9))) := ⟨q1, q2, hg, gt⟩
    have i0 := hE h3 q3 ⟨_, _, _, q3, rfl, fo_lw fo2 hin (ab_fo.of w2 (fun b q => Or.inl (in_tab r A b q))), hin⟩
    clear q1 q2 q3 hE p g1 g2 gt fo1 fo2 hin hg hT hA hB
    refine hV (fun p => p == 176) 80 _ _ _ _ _ _ ?_
    simp only [bI_in, bI_0, bI_1, bI_t, bI_f, bI_01, ae_aconst_null, ae_areturn, ae_ifCond, dL_build_171, dL_build_174, dL_build_175, ca_L_build_33, ca_L_build_34, ca_L_build_40, ca_L_build_47, ca_L_build_51, ab_wp0, ab_wps, ab_stp, ab_g, ab_st, ab_k2, ab_cl, ab_pop, ab_sz, ab_2, ab_ret, ab_f4, ab_tg, ab_I, ab_II, ab_A, ab_Rf, ab_VR, ab_IR, ab_VIR, ab_1, ab_LL, ab_DD, ab_ob, ab_pr, ab_qr, ab_ln, ab_so, ab_vI, ab_vA, ab_vD, ab_vL, ab_v2, ab_c, ab_fit, ab_rv, ab_tsw, ab_lsw, ab_up_eq, Fin.isValue, ab_f0, ab_f1, ab_f2, ab_f3, List.getElem?_cons_zero, List.getElem?_cons_succ, List.set_cons_zero, List.set_cons_succ, List.length_cons, List.length_nil, List.size_toArray, List.head?_cons, List.tail_cons, Option.map_some, cond_true, cond_false, true_and, and_true, false_and, and_false, not_true_eq_false, not_false_eq_true, true_imp_iff, false_imp_iff, if_true, if_false, ite_true, ite_false, ↓reduceIte, Nat.reduceAdd, Nat.reduceEqDiff, Nat.reduceLeDiff, Nat.reduceLT, Nat.reduceBEq, Nat.reduceBNe, Int.reduceAdd, Int.reduceNeg, Int.reduceSub, Int.reduceLE, Int.reduceLT, Int.reduceToNat, Int.reduceEq, Int.reduceMul, Int.cast_ofNat_Int, Nat.zero_add, Nat.add_zero, Nat.le_refl, eq_self, ne_eq, reduceCtorEq, or_true, true_or, or_false, false_or, Bool.or_true, Bool.or_false, Bool.true_or, Bool.false_or, Nat.zero_le, Int.le_refl, Int.ofNat_zero, Int.ofNat_one, Bool.false_eq_true]
    try simp only [ab_in]
    (repeat' (first | intro _ | refine And.intro ?_ ?_)) <;> (first | exact i0 | contradiction | omega | (exfalso; omega))
  clear hE p g1 g2 gt fo1 fo2 hin hg hT hA hB hr4
  rcases r1 with h01 | h01
  · subst h01
    refine hV (fun p => p == 171) 80 _ _ _ _ _ _ ?_
    simp only [D, D2, hqq, hgc, u0, u1, u2, u3, E, hrg, ht0, bI_in, bI_0, bI_1, bI_t, bI_f, bI_01, Tr_X3_setDay, ae_aaload, ae_aload_n, ae_getfield, ae_goto, ae_iaload, ae_iconst, ae_if_icmp, ae_iload_n, ae_invokevirtual, dL_build_125, dL_build_126, dL_build_127, dL_build_128, dL_build_131, dL_build_132, dL_build_133, dL_build_134, dL_build_135, dL_build_136, dL_build_139, dL_build_140, dL_build_141, dL_build_142, dL_build_143, dL_build_144, dL_build_147, dL_build_148, dL_build_151, dL_build_152, dL_build_153, dL_build_156, dL_build_157, dL_build_158, dL_build_159, dL_build_160, dL_build_161, dL_build_164, dL_build_165, dL_build_166, dL_build_167, dL_build_168, tbL_g44, ca_L_build_33, ca_L_build_34, ca_L_build_40, ca_L_build_47, ca_L_build_51, ab_wp0, ab_wps, ab_stp, ab_g, ab_st, ab_k2, ab_cl, ab_pop, ab_sz, ab_2, ab_ret, ab_f4, ab_tg, ab_I, ab_II, ab_A, ab_Rf, ab_VR, ab_IR, ab_VIR, ab_1, ab_LL, ab_DD, ab_ob, ab_pr, ab_qr, ab_ln, ab_so, ab_vI, ab_vA, ab_vD, ab_vL, ab_v2, ab_c, ab_fit, ab_rv, ab_tsw, ab_lsw, ab_up_eq, Fin.isValue, ab_f0, ab_f1, ab_f2, ab_f3, List.getElem?_cons_zero, List.getElem?_cons_succ, List.set_cons_zero, List.set_cons_succ, List.length_cons, List.length_nil, List.size_toArray, List.head?_cons, List.tail_cons, Option.map_some, cond_true, cond_false, true_and, and_true, false_and, and_false, not_true_eq_false, not_false_eq_true, true_imp_iff, false_imp_iff, if_true, if_false, ite_true, ite_false, ↓reduceIte, Nat.reduceAdd, Nat.reduceEqDiff, Nat.reduceLeDiff, Nat.reduceLT, Nat.reduceBEq, Nat.reduceBNe, Int.reduceAdd, Int.reduceNeg, Int.reduceSub, Int.reduceLE, Int.reduceLT, Int.reduceToNat, Int.reduceEq, Int.reduceMul, Int.cast_ofNat_Int, Nat.zero_add, Nat.add_zero, Nat.le_refl, eq_self, ne_eq, reduceCtorEq, or_true, true_or, or_false, false_or, Bool.or_true, Bool.or_false, Bool.true_or, Bool.false_or, Nat.zero_le, Int.le_refl, Int.ofNat_zero, Int.ofNat_one, Bool.false_eq_true]
    try simp only [ab_in]
    (repeat' (first | intro _ | refine And.intro ?_ ?_)) <;> (first | exact aft _ (by assumption) (by assumption) | exact rfl | contradiction | omega | (exfalso; omega))
  · subst h01
    refine hV (fun p => p == 171) 80 _ _ _ _ _ _ ?_
    simp only [D, D2, hqq, hgc, u0, u1, u2, u3, E, hrg, ht0, bI_in, bI_0, bI_1, bI_t, bI_f, bI_01, Tr_X3_setDay, ae_aaload, ae_aload_n, ae_getfield, ae_goto, ae_iaload, ae_iconst, ae_if_icmp, ae_iload_n, ae_invokevirtual, dL_build_125, dL_build_126, dL_build_127, dL_build_128, dL_build_131, dL_build_132, dL_build_133, dL_build_134, dL_build_135, dL_build_136, dL_build_139, dL_build_140, dL_build_141, dL_build_142, dL_build_143, dL_build_144, dL_build_147, dL_build_148, dL_build_151, dL_build_152, dL_build_153, dL_build_156, dL_build_157, dL_build_158, dL_build_159, dL_build_160, dL_build_161, dL_build_164, dL_build_165, dL_build_166, dL_build_167, dL_build_168, tbL_g44, ca_L_build_33, ca_L_build_34, ca_L_build_40, ca_L_build_47, ca_L_build_51, ab_wp0, ab_wps, ab_stp, ab_g, ab_st, ab_k2, ab_cl, ab_pop, ab_sz, ab_2, ab_ret, ab_f4, ab_tg, ab_I, ab_II, ab_A, ab_Rf, ab_VR, ab_IR, ab_VIR, ab_1, ab_LL, ab_DD, ab_ob, ab_pr, ab_qr, ab_ln, ab_so, ab_vI, ab_vA, ab_vD, ab_vL, ab_v2, ab_c, ab_fit, ab_rv, ab_tsw, ab_lsw, ab_up_eq, Fin.isValue, ab_f0, ab_f1, ab_f2, ab_f3, List.getElem?_cons_zero, List.getElem?_cons_succ, List.set_cons_zero, List.set_cons_succ, List.length_cons, List.length_nil, List.size_toArray, List.head?_cons, List.tail_cons, Option.map_some, cond_true, cond_false, true_and, and_true, false_and, and_false, not_true_eq_false, not_false_eq_true, true_imp_iff, false_imp_iff, if_true, if_false, ite_true, ite_false, ↓reduceIte, Nat.reduceAdd, Nat.reduceEqDiff, Nat.reduceLeDiff, Nat.reduceLT, Nat.reduceBEq, Nat.reduceBNe, Int.reduceAdd, Int.reduceNeg, Int.reduceSub, Int.reduceLE, Int.reduceLT, Int.reduceToNat, Int.reduceEq, Int.reduceMul, Int.cast_ofNat_Int, Nat.zero_add, Nat.add_zero, Nat.le_refl, eq_self, ne_eq, reduceCtorEq, or_true, true_or, or_false, false_or, Bool.or_true, Bool.or_false, Bool.true_or, Bool.false_or, Nat.zero_le, Int.le_refl, Int.ofNat_zero, Int.ofNat_one, Bool.false_eq_true]
    try simp only [ab_in]
    (repeat' (first | intro _ | refine And.intro ?_ ?_)) <;> (first | exact aft _ (by assumption) (by assumption) | exact rfl | contradiction | omega | (exfalso; omega))
set_option maxRecDepth 100000 in
set_option maxHeartbeats 4000000 in
theorem build_d {base : Nat} {K : Option AV → AH → Prop} {V : AVt} {h : AH} {r s b nb : Nat} {A : SA} {fb : Int → Int} (hV : ab_Hv tbL lw_ts base cL_build ca_L_build 3 160 13400 K V) (hsc : h b = some (.inr (.inl (9, nb, fb)))) (hnb : nb ≤ 300) (hbr : b ∉ r :: srL A)
    (hE : ∀ w4 h1 (k z : Nat), k ≤ 30 → z ≤ 176 → BQ h h1 r s A → V 10 [some (.inr (.inl (some r))), some (.inr (.inl (some b))), some (.inr (.inl (some s))), some (.inl (7)), w4, none, none, none, none] [] h1 k z) :
    ∀ (m : Nat) (kk : Int) (w4 : Option AV) (h1 : AH) (k z : Nat) (v : SV) (N : SN) (M : SM), kk + m = 7 → 0 ≤ kk → (k : Int) ≤ 23 + kk → (z : Int) ≤ 148 + 4 * kk → LwP h1 r s A v N M → M.day = 0 → ab_fo h h1 (fun b => b ∈ r :: srL A) → (∀ b, simIn N s b → h b = none) → (∀ j, kk ≤ j → j ≤ 6 → M.dy j 0 = 0 ∧ M.dy j 2 = 0 ∧ M.dy j 3 = 0) → V 10 [some (.inr (.inl (some r))), some (.inr (.inl (some b))), some (.inr (.inl (some s))), some (.inl (kk)), w4, none, none, none, none] [] h1 k z := by
  intro m
  induction m with
  | zero =>
    intro kk w4 h1 k z v N M hk h0 hkc hzc p hd fo fr hdz
    have e : kk = 7 := by omega
    subst e
    exact hE w4 h1 k z (by omega) (by omega) ⟨v, N, M, p, hd, fo, fr⟩
  | succ m ih =>
    intro kk w4 h1 k z v N M hk h0 hkc hzc p hd fo fr hdz
    have hlt : ¬ 7 ≤ kk := by omega
    have hsc1 := sc_keep fo hsc hbr
    have skip : V 176 [some (.inr (.inl (some r))), some (.inr (.inl (some b))), some (.inr (.inl (some s))), some (.inl (kk)), w4, none, none, none, none] [] h1 k z := by
      have i0 := ih (kk + 1) w4 h1 k z v N M (by omega) (by omega) (by omega) (by omega) p hd fo fr (fun j j0 j1 => hdz j (by omega) j1)
      clear ih hE
      refine hV (fun p => p == 10) 80 _ _ _ _ _ _ ?_
      simp only [bI_in, bI_0, bI_1, bI_t, bI_f, bI_01, ae_goto, ae_iinc, dL_build_176, dL_build_179, ca_L_build_33, ca_L_build_34, ca_L_build_40, ca_L_build_47, ca_L_build_51, ab_wp0, ab_wps, ab_stp, ab_g, ab_st, ab_k2, ab_cl, ab_pop, ab_sz, ab_2, ab_ret, ab_f4, ab_tg, ab_I, ab_II, ab_A, ab_Rf, ab_VR, ab_IR, ab_VIR, ab_1, ab_LL, ab_DD, ab_ob, ab_pr, ab_qr, ab_ln, ab_so, ab_vI, ab_vA, ab_vD, ab_vL, ab_v2, ab_c, ab_fit, ab_rv, ab_tsw, ab_lsw, ab_up_eq, Fin.isValue, ab_f0, ab_f1, ab_f2, ab_f3, List.getElem?_cons_zero, List.getElem?_cons_succ, List.set_cons_zero, List.set_cons_succ, List.length_cons, List.length_nil, List.size_toArray, List.head?_cons, List.tail_cons, Option.map_some, cond_true, cond_false, true_and, and_true, false_and, and_false, not_true_eq_false, not_false_eq_true, true_imp_iff, false_imp_iff, if_true, if_false, ite_true, ite_false, ↓reduceIte, Nat.reduceAdd, Nat.reduceEqDiff, Nat.reduceLeDiff, Nat.reduceLT, Nat.reduceBEq, Nat.reduceBNe, Int.reduceAdd, Int.reduceNeg, Int.reduceSub, Int.reduceLE, Int.reduceLT, Int.reduceToNat, Int.reduceEq, Int.reduceMul, Int.cast_ofNat_Int, Nat.zero_add, Nat.add_zero, Nat.le_refl, eq_self, ne_eq, reduceCtorEq, or_true, true_or, or_false, false_or, Bool.or_true, Bool.or_false, Bool.true_or, Bool.false_or, Nat.zero_le, Int.le_refl, Int.ofNat_zero, Int.ofNat_one, Bool.false_eq_true]
      try simp only [ab_in]
      (repeat' (first | intro _ | refine And.intro ?_ ?_)) <;> (first | exact i0 | contradiction | omega | (exfalso; omega))
    have at55 : ∀ x : Int, V 55 [some (.inr (.inl (some r))), some (.inr (.inl (some b))), some (.inr (.inl (some s))), some (.inl (kk)), some (.inl (x)), none, none, none, none] [] h1 k z := by
      intro x
      obtain ⟨S, O, fc, T⟩ := v
      have ht0 : toldF T kk = 0 := by
        obtain ⟨t0, t1, t2, t3⟩ := p.2.2.2 kk h0 (by omega)
        obtain ⟨d0, d2, d3⟩ := hdz kk (Int.le_refl _) (by omega)
        dsimp only at t0 t2 t3
        unfold toldF dayF
        rw [show isDayF kk = true from decide_eq_true (by omega), ← t0, ← t2, ← t3, d0, d2, d3]
        rfl
      have D := p.2.1.2.1
      have D2 := p.2.1.2.2.2.2.2.1
      dsimp only at D D2
      have a2 := below_r (v := (Int32.ofInt x >>> (Int32.ofInt 3 &&& 31)).toInt) (n := 2) (by omega)
      have b2 := below_r (v := (Int32.ofInt x >>> (Int32.ofInt 4 &&& 31)).toInt) (n := 2) (by omega)
      have c2 := below_r (v := (Int32.ofInt x >>> (Int32.ofInt 2 &&& 31)).toInt) (n := 10) (by omega)
      have e2 := below_r (v := (Int32.ofInt x >>> (Int32.ofInt 5 &&& 31)).toInt) (n := 10) (by omega)
      have fin : ∀ (g : Nat) (a9 : Int), h1 g = none → (0 ≤ a9 ∧ a9 ≤ 20) → V 125 [some (.inr (.inl (some r))), some (.inr (.inl (some b))), some (.inr (.inl (some s))), some (.inl (kk)), some (.inl (x)), none, none, none, none] [] (ab_up (ab_up h1 g (.inr (.inl (0, 4, ab_uf (ab_uf (ab_uf (ab_uf (fun _ => 0) 0 a9) 1 (belowF (Int32.ofInt x >>> (Int32.ofInt 4 &&& 31)).toInt 2)) 2 (belowF (Int32.ofInt x >>> (Int32.ofInt 2 &&& 31)).toInt 10)) 3 (belowF (Int32.ofInt x >>> (Int32.ofInt 5 &&& 31)).toInt 10))))) N.2.2.2.2.1 (.inr (.inr (3, 7, ab_uf N.2.2.2.2.2 kk (some g))))) (k + 1) (z + 4) := by
        intro g a9 hg0 ha9
        refine build_s hV hsc hnb hbr ⟨h0, by omega⟩ ⟨ha9, by omega, by omega, by omega⟩ p hg0 ht0 (by omega) (fun h2 p2 q => ?_)
        obtain ⟨w1, w2, w3, w4', w5, w6, w7⟩ := bq_step p hd fo fr q
        have key : ab_fo h h2 (fun b => b ∈ r :: srL A) ∧ ∀ b, simIn (N.1, N.2.1, N.2.2.1, N.2.2.2.1, N.2.2.2.2.1, ab_uf N.2.2.2.2.2 kk (some g)) s b → h b = none := by
          refine ⟨w6, fun b hb => ?_⟩
          have : simIn N s b ∨ h1 b = none := by
            rcases hb with q | q | q | q | q | q | ⟨j, q⟩
            · exact Or.inl (Or.inl q)
            · exact Or.inl (Or.inr (Or.inl q))
            · exact Or.inl (Or.inr (Or.inr (Or.inl q)))
            · exact Or.inl (Or.inr (Or.inr (Or.inr (Or.inl q))))
            · exact Or.inl (Or.inr (Or.inr (Or.inr (Or.inr (Or.inl q)))))
            · exact Or.inl (Or.inr (Or.inr (Or.inr (Or.inr (Or.inr (Or.inl q))))))
            · simp only [ab_uf] at q
              split at q
              · cases q; exact Or.inr hg0
              · exact Or.inl (simIn_d q)
          rcases this with u | u
          · exact fr b u
          · by_cases hr : b ∈ r :: srL A
            · exact absurd u (sr_nn p.1 b hr)
            · cases hc : h b with
              | none => rfl
              | some c => rw [fo b hr (by rw [hc]; exact fun u => by cases u), hc] at u; cases u
        have i0 := ih (kk + 1) (some (.inl x)) h2 (k + 1) (z + 4) _ _ _ (by omega) (by omega) (by omega) (by omega) p2 hd key.1 key.2 (fun j j0 j1 => by
          have e9 : ab_uf M.dy kk (ab_uf (ab_uf (ab_uf (ab_uf (fun _ => 0) 0 a9) 1 (belowF (Int32.ofInt x >>> (Int32.ofInt 4 &&& 31)).toInt 2)) 2 (belowF (Int32.ofInt x >>> (Int32.ofInt 2 &&& 31)).toInt 10)) 3 (belowF (Int32.ofInt x >>> (Int32.ofInt 5 &&& 31)).toInt 10)) j = M.dy j := if_neg (by omega)
          show ab_uf M.dy kk (ab_uf (ab_uf (ab_uf (ab_uf (fun _ => 0) 0 a9) 1 (belowF (Int32.ofInt x >>> (Int32.ofInt 4 &&& 31)).toInt 2)) 2 (belowF (Int32.ofInt x >>> (Int32.ofInt 2 &&& 31)).toInt 10)) 3 (belowF (Int32.ofInt x >>> (Int32.ofInt 5 &&& 31)).toInt 10)) j 0 = 0 ∧ ab_uf M.dy kk (ab_uf (ab_uf (ab_uf (ab_uf (fun _ => 0) 0 a9) 1 (belowF (Int32.ofInt x >>> (Int32.ofInt 4 &&& 31)).toInt 2)) 2 (belowF (Int32.ofInt x >>> (Int32.ofInt 2 &&& 31)).toInt 10)) 3 (belowF (Int32.ofInt x >>> (Int32.ofInt 5 &&& 31)).toInt 10)) j 2 = 0 ∧ ab_uf M.dy kk (ab_uf (ab_uf (ab_uf (ab_uf (fun _ => 0) 0 a9) 1 (belowF (Int32.ofInt x >>> (Int32.ofInt 4 &&& 31)).toInt 2)) 2 (belowF (Int32.ofInt x >>> (Int32.ofInt 2 &&& 31)).toInt 10)) 3 (belowF (Int32.ofInt x >>> (Int32.ofInt 5 &&& 31)).toInt 10)) j 3 = 0
          rw [e9]
          exact hdz j (by omega) j1)
        clear ih hE p fo fr key p2 q w6 w7 w4'
        refine hV (fun p => p == 10) 80 _ _ _ _ _ _ ?_
        simp only [bI_in, bI_0, bI_1, bI_t, bI_f, bI_01, ae_goto, ae_iinc, dL_build_176, dL_build_179, ca_L_build_33, ca_L_build_34, ca_L_build_40, ca_L_build_47, ca_L_build_51, ab_wp0, ab_wps, ab_stp, ab_g, ab_st, ab_k2, ab_cl, ab_pop, ab_sz, ab_2, ab_ret, ab_f4, ab_tg, ab_I, ab_II, ab_A, ab_Rf, ab_VR, ab_IR, ab_VIR, ab_1, ab_LL, ab_DD, ab_ob, ab_pr, ab_qr, ab_ln, ab_so, ab_vI, ab_vA, ab_vD, ab_vL, ab_v2, ab_c, ab_fit, ab_rv, ab_tsw, ab_lsw, ab_up_eq, Fin.isValue, ab_f0, ab_f1, ab_f2, ab_f3, List.getElem?_cons_zero, List.getElem?_cons_succ, List.set_cons_zero, List.set_cons_succ, List.length_cons, List.length_nil, List.size_toArray, List.head?_cons, List.tail_cons, Option.map_some, cond_true, cond_false, true_and, and_true, false_and, and_false, not_true_eq_false, not_false_eq_true, true_imp_iff, false_imp_iff, if_true, if_false, ite_true, ite_false, ↓reduceIte, Nat.reduceAdd, Nat.reduceEqDiff, Nat.reduceLeDiff, Nat.reduceLT, Nat.reduceBEq, Nat.reduceBNe, Int.reduceAdd, Int.reduceNeg, Int.reduceSub, Int.reduceLE, Int.reduceLT, Int.reduceToNat, Int.reduceEq, Int.reduceMul, Int.cast_ofNat_Int, Nat.zero_add, Nat.add_zero, Nat.le_refl, eq_self, ne_eq, reduceCtorEq, or_true, true_or, or_false, false_or, Bool.or_true, Bool.or_false, Bool.true_or, Bool.false_or, Nat.zero_le, Int.le_refl, Int.ofNat_zero, Int.ofNat_one, Bool.false_eq_true]
        try simp only [ab_in]
        (repeat' (first | intro _ | refine And.intro ?_ ?_)) <;> (first | exact i0 | contradiction | omega | (exfalso; omega))
      have nng : ∀ g, h1 g = none → ¬ N.2.2.2.2.1 = g ∧ ¬ s = g := fun g hg0 => ⟨(by rintro rfl; rw [D2] at hg0; cases hg0), (by rintro rfl; rw [D] at hg0; cases hg0)⟩
      have ra := below_r (v := x) (n := 21) (by omega)
      have rb := below_r (v := x) (n := 8) (by omega)
      clear ih hE skip p fo fr hdz
      refine hV (fun p => p == 63) 80 _ _ _ _ _ _ ?_
      simp only [D, D2, bI_in, bI_0, bI_1, bI_t, bI_f, bI_01, ae_aload_n, ae_getfield, ae_iconst, ae_iload_n, ae_newarray, dL_build_55, dL_build_56, dL_build_59, dL_build_60, dL_build_61, tbL_g44, ca_L_build_33, ca_L_build_34, ca_L_build_40, ca_L_build_47, ca_L_build_51, ab_wp0, ab_wps, ab_stp, ab_g, ab_st, ab_k2, ab_cl, ab_pop, ab_sz, ab_2, ab_ret, ab_f4, ab_tg, ab_I, ab_II, ab_A, ab_Rf, ab_VR, ab_IR, ab_VIR, ab_1, ab_LL, ab_DD, ab_ob, ab_pr, ab_qr, ab_ln, ab_so, ab_vI, ab_vA, ab_vD, ab_vL, ab_v2, ab_c, ab_fit, ab_rv, ab_tsw, ab_lsw, ab_up_eq, Fin.isValue, ab_f0, ab_f1, ab_f2, ab_f3, List.getElem?_cons_zero, List.getElem?_cons_succ, List.set_cons_zero, List.set_cons_succ, List.length_cons, List.length_nil, List.size_toArray, List.head?_cons, List.tail_cons, Option.map_some, cond_true, cond_false, true_and, and_true, false_and, and_false, not_true_eq_false, not_false_eq_true, true_imp_iff, false_imp_iff, if_true, if_false, ite_true, ite_false, ↓reduceIte, Nat.reduceAdd, Nat.reduceEqDiff, Nat.reduceLeDiff, Nat.reduceLT, Nat.reduceBEq, Nat.reduceBNe, Int.reduceAdd, Int.reduceNeg, Int.reduceSub, Int.reduceLE, Int.reduceLT, Int.reduceToNat, Int.reduceEq, Int.reduceMul, Int.cast_ofNat_Int, Nat.zero_add, Nat.add_zero, Nat.le_refl, eq_self, ne_eq, reduceCtorEq, or_true, true_or, or_false, false_or, Bool.or_true, Bool.or_false, Bool.true_or, Bool.false_or, Nat.zero_le, Int.le_refl, Int.ofNat_zero, Int.ofNat_one, Bool.false_eq_true]
      try simp only [ab_in]
      repeat (refine ⟨by first | omega | (refine ⟨by decide, by omega⟩), ?_⟩)
      intro g hg0 _
      obtain ⟨n1, n2⟩ := nng g hg0
      clear nng
      by_cases hz : belowF (Int32.ofInt x >>> (Int32.ofInt 3 &&& 31)).toInt 2 = 0
      · have i0 := fin g (belowF x 21) hg0 (by omega)
        clear fin
        refine hV (fun p => p == 125) 80 _ _ _ _ _ _ ?_
        simp only [D, D2, n1, n2, ab_up_up, ab_up_ap, hz, bI_in, bI_0, bI_1, bI_t, bI_f, bI_01, Tr_L_below, ae_aastore, ae_bipush, ae_dup, ae_goto, ae_iastore, ae_iconst, ae_ifCond, ae_iload, ae_invokestatic, ae_ishr, dL_build_63, dL_build_64, dL_build_65, dL_build_67, dL_build_69, dL_build_70, dL_build_71, dL_build_72, dL_build_75, dL_build_78, dL_build_80, dL_build_83, dL_build_85, dL_build_88, dL_build_89, dL_build_90, dL_build_91, dL_build_93, dL_build_94, dL_build_95, dL_build_96, dL_build_99, dL_build_100, dL_build_101, dL_build_102, dL_build_104, dL_build_105, dL_build_106, dL_build_108, dL_build_111, dL_build_112, dL_build_113, dL_build_114, dL_build_116, dL_build_117, dL_build_118, dL_build_120, dL_build_123, dL_build_124, ca_L_build_33, ca_L_build_34, ca_L_build_40, ca_L_build_47, ca_L_build_51, ab_wp0, ab_wps, ab_stp, ab_g, ab_st, ab_k2, ab_cl, ab_pop, ab_sz, ab_2, ab_ret, ab_f4, ab_tg, ab_I, ab_II, ab_A, ab_Rf, ab_VR, ab_IR, ab_VIR, ab_1, ab_LL, ab_DD, ab_ob, ab_pr, ab_qr, ab_ln, ab_so, ab_vI, ab_vA, ab_vD, ab_vL, ab_v2, ab_c, ab_fit, ab_rv, ab_tsw, ab_lsw, ab_up_eq, Fin.isValue, ab_f0, ab_f1, ab_f2, ab_f3, List.getElem?_cons_zero, List.getElem?_cons_succ, List.set_cons_zero, List.set_cons_succ, List.length_cons, List.length_nil, List.size_toArray, List.head?_cons, List.tail_cons, Option.map_some, cond_true, cond_false, true_and, and_true, false_and, and_false, not_true_eq_false, not_false_eq_true, true_imp_iff, false_imp_iff, if_true, if_false, ite_true, ite_false, ↓reduceIte, Nat.reduceAdd, Nat.reduceEqDiff, Nat.reduceLeDiff, Nat.reduceLT, Nat.reduceBEq, Nat.reduceBNe, Int.reduceAdd, Int.reduceNeg, Int.reduceSub, Int.reduceLE, Int.reduceLT, Int.reduceToNat, Int.reduceEq, Int.reduceMul, Int.cast_ofNat_Int, Nat.zero_add, Nat.add_zero, Nat.le_refl, eq_self, ne_eq, reduceCtorEq, or_true, true_or, or_false, false_or, Bool.or_true, Bool.or_false, Bool.true_or, Bool.false_or, Nat.zero_le, Int.le_refl, Int.ofNat_zero, Int.ofNat_one, Bool.false_eq_true]
        try simp only [ab_in]
        (repeat' (first | intro _ | refine And.intro ?_ ?_)) <;> (first | exact i0 | exact rfl | contradiction | omega | (exfalso; omega))
      · have i0 := fin g (belowF x 8) hg0 (by omega)
        clear fin
        refine hV (fun p => p == 125) 80 _ _ _ _ _ _ ?_
        simp only [D, D2, n1, n2, ab_up_up, ab_up_ap, hz, bI_in, bI_0, bI_1, bI_t, bI_f, bI_01, Tr_L_below, ae_aastore, ae_bipush, ae_dup, ae_goto, ae_iastore, ae_iconst, ae_ifCond, ae_iload, ae_invokestatic, ae_ishr, dL_build_63, dL_build_64, dL_build_65, dL_build_67, dL_build_69, dL_build_70, dL_build_71, dL_build_72, dL_build_75, dL_build_78, dL_build_80, dL_build_83, dL_build_85, dL_build_88, dL_build_89, dL_build_90, dL_build_91, dL_build_93, dL_build_94, dL_build_95, dL_build_96, dL_build_99, dL_build_100, dL_build_101, dL_build_102, dL_build_104, dL_build_105, dL_build_106, dL_build_108, dL_build_111, dL_build_112, dL_build_113, dL_build_114, dL_build_116, dL_build_117, dL_build_118, dL_build_120, dL_build_123, dL_build_124, ca_L_build_33, ca_L_build_34, ca_L_build_40, ca_L_build_47, ca_L_build_51, ab_wp0, ab_wps, ab_stp, ab_g, ab_st, ab_k2, ab_cl, ab_pop, ab_sz, ab_2, ab_ret, ab_f4, ab_tg, ab_I, ab_II, ab_A, ab_Rf, ab_VR, ab_IR, ab_VIR, ab_1, ab_LL, ab_DD, ab_ob, ab_pr, ab_qr, ab_ln, ab_so, ab_vI, ab_vA, ab_vD, ab_vL, ab_v2, ab_c, ab_fit, ab_rv, ab_tsw, ab_lsw, ab_up_eq, Fin.isValue, ab_f0, ab_f1, ab_f2, ab_f3, List.getElem?_cons_zero, List.getElem?_cons_succ, List.set_cons_zero, List.set_cons_succ, List.length_cons, List.length_nil, List.size_toArray, List.head?_cons, List.tail_cons, Option.map_some, cond_true, cond_false, true_and, and_true, false_and, and_false, not_true_eq_false, not_false_eq_true, true_imp_iff, false_imp_iff, if_true, if_false, ite_true, ite_false, ↓reduceIte, Nat.reduceAdd, Nat.reduceEqDiff, Nat.reduceLeDiff, Nat.reduceLT, Nat.reduceBEq, Nat.reduceBNe, Int.reduceAdd, Int.reduceNeg, Int.reduceSub, Int.reduceLE, Int.reduceLT, Int.reduceToNat, Int.reduceEq, Int.reduceMul, Int.cast_ofNat_Int, Nat.zero_add, Nat.add_zero, Nat.le_refl, eq_self, ne_eq, reduceCtorEq, or_true, true_or, or_false, false_or, Bool.or_true, Bool.or_false, Bool.true_or, Bool.false_or, Nat.zero_le, Int.le_refl, Int.ofNat_zero, Int.ofNat_one, Bool.false_eq_true]
        try simp only [ab_in]
        (repeat' (first | intro _ | refine And.intro ?_ ?_)) <;> (first | exact i0 | exact rfl | contradiction | omega | (exfalso; omega))
    clear ih hE p fo fr hdz
    have at27 : ∀ t : Int, (0 ≤ t ∧ t < 4) → V 27 [some (.inr (.inl (some r))), some (.inr (.inl (some b))), some (.inr (.inl (some s))), some (.inl (kk)), w4, none, none, none, none] [.inl t] h1 k z := by
      intro t ht
      have hkm : Int.tmod kk 4 = kk % 4 := Int.tmod_eq_emod_of_nonneg h0
      by_cases hz : t = 0
      · clear at55
        refine hV (fun p => bif p == 33 then true else p == 176) 80 _ _ _ _ _ _ ?_
        simp only [hz, bI_in, bI_0, bI_1, bI_t, bI_f, bI_01, ae_aload_n, ae_bipush, ae_goto, ae_iadd, ae_iconst, ae_idiv, ae_ifCond, ae_iload_n, ae_imul, ae_invokestatic, ae_irem, ae_ishr, ae_istore, dL_build_27, dL_build_30, dL_build_33, dL_build_34, dL_build_35, dL_build_36, dL_build_37, dL_build_38, dL_build_39, dL_build_42, dL_build_43, dL_build_44, dL_build_45, dL_build_46, dL_build_47, dL_build_48, dL_build_50, dL_build_51, dL_build_52, dL_build_53, ca_L_build_33, ca_L_build_34, ca_L_build_40, ca_L_build_47, ca_L_build_51, ab_wp0, ab_wps, ab_stp, ab_g, ab_st, ab_k2, ab_cl, ab_pop, ab_sz, ab_2, ab_ret, ab_f4, ab_tg, ab_I, ab_II, ab_A, ab_Rf, ab_VR, ab_IR, ab_VIR, ab_1, ab_LL, ab_DD, ab_ob, ab_pr, ab_qr, ab_ln, ab_so, ab_vI, ab_vA, ab_vD, ab_vL, ab_v2, ab_c, ab_fit, ab_rv, ab_tsw, ab_lsw, ab_up_eq, Fin.isValue, ab_f0, ab_f1, ab_f2, ab_f3, List.getElem?_cons_zero, List.getElem?_cons_succ, List.set_cons_zero, List.set_cons_succ, List.length_cons, List.length_nil, List.size_toArray, List.head?_cons, List.tail_cons, Option.map_some, cond_true, cond_false, true_and, and_true, false_and, and_false, not_true_eq_false, not_false_eq_true, true_imp_iff, false_imp_iff, if_true, if_false, ite_true, ite_false, ↓reduceIte, Nat.reduceAdd, Nat.reduceEqDiff, Nat.reduceLeDiff, Nat.reduceLT, Nat.reduceBEq, Nat.reduceBNe, Int.reduceAdd, Int.reduceNeg, Int.reduceSub, Int.reduceLE, Int.reduceLT, Int.reduceToNat, Int.reduceEq, Int.reduceMul, Int.cast_ofNat_Int, Nat.zero_add, Nat.add_zero, Nat.le_refl, eq_self, ne_eq, reduceCtorEq, or_true, true_or, or_false, false_or, Bool.or_true, Bool.or_false, Bool.true_or, Bool.false_or, Nat.zero_le, Int.le_refl, Int.ofNat_zero, Int.ofNat_one, Bool.false_eq_true]
        try simp only [ab_in]
        (repeat' (first | intro _ | refine And.intro ?_ ?_)) <;> (first | exact skip | contradiction | omega | (exfalso; omega))
      · clear skip
        refine hV (fun p => bif p == 55 then true else p == 176) 80 _ _ _ _ _ _ ?_
        simp only [hz, hsc1, hkm, bI_in, bI_0, bI_1, bI_t, bI_f, bI_01, Tr_L_cell, ae_aload_n, ae_bipush, ae_goto, ae_iadd, ae_iconst, ae_idiv, ae_ifCond, ae_iload_n, ae_imul, ae_invokestatic, ae_irem, ae_ishr, ae_istore, dL_build_27, dL_build_30, dL_build_33, dL_build_34, dL_build_35, dL_build_36, dL_build_37, dL_build_38, dL_build_39, dL_build_42, dL_build_43, dL_build_44, dL_build_45, dL_build_46, dL_build_47, dL_build_48, dL_build_50, dL_build_51, dL_build_52, dL_build_53, ca_L_build_33, ca_L_build_34, ca_L_build_40, ca_L_build_47, ca_L_build_51, ab_wp0, ab_wps, ab_stp, ab_g, ab_st, ab_k2, ab_cl, ab_pop, ab_sz, ab_2, ab_ret, ab_f4, ab_tg, ab_I, ab_II, ab_A, ab_Rf, ab_VR, ab_IR, ab_VIR, ab_1, ab_LL, ab_DD, ab_ob, ab_pr, ab_qr, ab_ln, ab_so, ab_vI, ab_vA, ab_vD, ab_vL, ab_v2, ab_c, ab_fit, ab_rv, ab_tsw, ab_lsw, ab_up_eq, Fin.isValue, ab_f0, ab_f1, ab_f2, ab_f3, List.getElem?_cons_zero, List.getElem?_cons_succ, List.set_cons_zero, List.set_cons_succ, List.length_cons, List.length_nil, List.size_toArray, List.head?_cons, List.tail_cons, Option.map_some, cond_true, cond_false, true_and, and_true, false_and, and_false, not_true_eq_false, not_false_eq_true, true_imp_iff, false_imp_iff, if_true, if_false, ite_true, ite_false, ↓reduceIte, Nat.reduceAdd, Nat.reduceEqDiff, Nat.reduceLeDiff, Nat.reduceLT, Nat.reduceBEq, Nat.reduceBNe, Int.reduceAdd, Int.reduceNeg, Int.reduceSub, Int.reduceLE, Int.reduceLT, Int.reduceToNat, Int.reduceEq, Int.reduceMul, Int.cast_ofNat_Int, Nat.zero_add, Nat.add_zero, Nat.le_refl, eq_self, ne_eq, reduceCtorEq, or_true, true_or, or_false, false_or, Bool.or_true, Bool.or_false, Bool.true_or, Bool.false_or, Nat.zero_le, Int.le_refl, Int.ofNat_zero, Int.ofNat_one, Bool.false_eq_true]
        try simp only [ab_in]
        (repeat' (first | intro _ | refine And.intro ?_ ?_)) <;> (first | exact at55 _ | exact rfl | contradiction | omega | (exfalso; omega))
    clear at55 skip
    have r4 : ∀ v, 0 ≤ belowF v 4 ∧ belowF v 4 < 4 := fun v => below_r (by omega)
    refine hV (fun p => bif p == 27 then true else p == 182) 80 _ _ _ _ _ _ ?_
    simp only [hlt, hsc1, bI_in, bI_0, bI_1, bI_t, bI_f, bI_01, Tr_L_cell, Tr_L_below, ae_aload_n, ae_bipush, ae_iconst, ae_if_icmp, ae_iload_n, ae_invokestatic, ae_ishr, dL_build_10, dL_build_11, dL_build_13, dL_build_16, dL_build_17, dL_build_18, dL_build_21, dL_build_22, dL_build_23, dL_build_24, ca_L_build_33, ca_L_build_34, ca_L_build_40, ca_L_build_47, ca_L_build_51, ab_wp0, ab_wps, ab_stp, ab_g, ab_st, ab_k2, ab_cl, ab_pop, ab_sz, ab_2, ab_ret, ab_f4, ab_tg, ab_I, ab_II, ab_A, ab_Rf, ab_VR, ab_IR, ab_VIR, ab_1, ab_LL, ab_DD, ab_ob, ab_pr, ab_qr, ab_ln, ab_so, ab_vI, ab_vA, ab_vD, ab_vL, ab_v2, ab_c, ab_fit, ab_rv, ab_tsw, ab_lsw, ab_up_eq, Fin.isValue, ab_f0, ab_f1, ab_f2, ab_f3, List.getElem?_cons_zero, List.getElem?_cons_succ, List.set_cons_zero, List.set_cons_succ, List.length_cons, List.length_nil, List.size_toArray, List.head?_cons, List.tail_cons, Option.map_some, cond_true, cond_false, true_and, and_true, false_and, and_false, not_true_eq_false, not_false_eq_true, true_imp_iff, false_imp_iff, if_true, if_false, ite_true, ite_false, ↓reduceIte, Nat.reduceAdd, Nat.reduceEqDiff, Nat.reduceLeDiff, Nat.reduceLT, Nat.reduceBEq, Nat.reduceBNe, Int.reduceAdd, Int.reduceNeg, Int.reduceSub, Int.reduceLE, Int.reduceLT, Int.reduceToNat, Int.reduceEq, Int.reduceMul, Int.cast_ofNat_Int, Nat.zero_add, Nat.add_zero, Nat.le_refl, eq_self, ne_eq, reduceCtorEq, or_true, true_or, or_false, false_or, Bool.or_true, Bool.or_false, Bool.true_or, Bool.false_or, Nat.zero_le, Int.le_refl, Int.ofNat_zero, Int.ofNat_one, Bool.false_eq_true]
    try simp only [ab_in]
    (repeat' (first | intro _ | refine And.intro ?_ ?_)) <;> (first | exact at27 _ (r4 _) | exact rfl | contradiction | omega | (exfalso; omega))
theorem sc_not {h : AH} {r b n : Nat} {A : SA} {v : SV} {f : Int → Int} (h1 : srAt h r (A, v)) (hb : b ∈ r :: srL A) (e : h b = some (.inr (.inl (9, n, f)))) : False := by
  obtain ⟨⟨r1, ns⟩, ⟨t, ms⟩, ⟨c, n9⟩, b1, q0, q1, q2, q3⟩ := A
  obtain ⟨S0, O, fc, T⟩ := v
  obtain ⟨d, d0, d1, d2, d3, d4⟩ := h1
  dsimp only at d d0 d1 d2 d3 d4
  have rf : ∀ (r : Nat) (ns : List Nat) (S : RS), ab_roof h r = some (ns, S) → b = r ∨ b ∈ ns → False := by
    intro r ns S hr hx
    obtain ⟨hB, n0, n1, n2, n3, n4, n5, n6, n7, n8, rfl, nd, c, c0, c1, c2, c3, c4, c5, c6, c7, c8⟩ := roof_el hr
    simp only [List.mem_cons, List.not_mem_nil, or_false] at hx
    rcases hx with rfl | rfl | rfl | rfl | rfl | rfl | rfl | rfl | rfl | rfl
    · cases c.symm.trans e
    · cases c0.symm.trans e
    · cases c1.symm.trans e
    · cases c2.symm.trans e
    · cases c3.symm.trans e
    · cases c4.symm.trans e
    · cases c5.symm.trans e
    · cases c6.symm.trans e
    · cases c7.symm.trans e
    · cases c8.symm.trans e
  simp only [srL, List.mem_cons, List.mem_append, List.not_mem_nil, or_false] at hb
  obtain ⟨-, -, e0, e1⟩ := cov_el d2
  obtain ⟨-, -, g0, g1, g2, g3, g4⟩ := tab_el d3
  dsimp only at e0 e1 g0 g1 g2 g3 g4
  rcases hb with rfl | hx | hx | rfl | rfl | rfl | rfl | rfl | rfl | rfl
  · cases d.symm.trans e
  · exact rf r1 ns S0 d0 hx
  · exact rf t ms O d1 hx
  · cases e0.symm.trans e
  · cases e1.symm.trans e
  · cases g0.symm.trans e
  · cases g1.symm.trans e
  · cases g2.symm.trans e
  · cases g3.symm.trans e
  · cases g4.symm.trans e
set_option maxRecDepth 100000 in
set_option maxHeartbeats 4000000 in
theorem sem_L_build (base : Nat) : ab_Sem tbL lw_ts base cL_build ca_L_build 3 9 160 13400 (fun as => ab_en as 9) Tr_L_build := by
  intro as h K hT V hV
  unfold Tr_L_build at hT
  split at hT
  · rename_i r b
    obtain ⟨⟨A, v⟩, hQ1, hT2⟩ := ab_so_el hT
    obtain ⟨t9, nb, fb, hsc, ⟨rfl, hnb, hv0⟩, hK⟩ := ab_pr_el hT2
    have hA := sr_el hQ1
    dsimp only at hv0 hK
    subst hv0
    show V 0 [some (.inr (.inl (some r))), some (.inr (.inl (some b))), none, none, none, none, none, none, none] [] h 0 0
    have hbr : b ∉ r :: srL A := by
      intro q
      rcases sr_kind hA b q with ⟨ci, fs, e, -⟩ | ⟨t, n, f, e, -⟩
      · cases hsc.symm.trans e
      · exact sc_not hA q hsc
    refine hV (fun p => p == 3) 80 _ _ _ _ _ _ ?_
    simp only [bI_in, bI_0, bI_1, bI_t, bI_f, bI_01, ae_new, dL_build_0, tbL_n10, ca_L_build_33, ca_L_build_34, ca_L_build_40, ca_L_build_47, ca_L_build_51, ab_wp0, ab_wps, ab_stp, ab_g, ab_st, ab_k2, ab_cl, ab_pop, ab_sz, ab_2, ab_ret, ab_f4, ab_tg, ab_I, ab_II, ab_A, ab_Rf, ab_VR, ab_IR, ab_VIR, ab_1, ab_LL, ab_DD, ab_ob, ab_pr, ab_qr, ab_ln, ab_so, ab_vI, ab_vA, ab_vD, ab_vL, ab_v2, ab_c, ab_fit, ab_rv, ab_tsw, ab_lsw, ab_up_eq, Fin.isValue, ab_f0, ab_f1, ab_f2, ab_f3, List.getElem?_cons_zero, List.getElem?_cons_succ, List.set_cons_zero, List.set_cons_succ, List.length_cons, List.length_nil, List.size_toArray, List.head?_cons, List.tail_cons, Option.map_some, cond_true, cond_false, true_and, and_true, false_and, and_false, not_true_eq_false, not_false_eq_true, true_imp_iff, false_imp_iff, if_true, if_false, ite_true, ite_false, ↓reduceIte, Nat.reduceAdd, Nat.reduceEqDiff, Nat.reduceLeDiff, Nat.reduceLT, Nat.reduceBEq, Nat.reduceBNe, Int.reduceAdd, Int.reduceNeg, Int.reduceSub, Int.reduceLE, Int.reduceLT, Int.reduceToNat, Int.reduceEq, Int.reduceMul, Int.cast_ofNat_Int, Nat.zero_add, Nat.add_zero, Nat.le_refl, eq_self, ne_eq, reduceCtorEq, or_true, true_or, or_false, false_or, Bool.or_true, Bool.or_false, Bool.true_or, Bool.false_or, Nat.zero_le, Int.le_refl, Int.ofNat_zero, Int.ofNat_one, Bool.false_eq_true]
    try simp only [ab_in]
    repeat (refine ⟨by first | omega | (refine ⟨by decide, by omega⟩), ?_⟩)
    intro s hs0 _
    have at7 : ∀ h1 N, ab_sim h1 s = some (N, sim0) → ab_fo (ab_up h s (.inl (4, [.inr (.inl none), .inr (.inl none), .inr (.inl none), .inl 0, .inl 0]))) h1 (fun b => b = s) → (∀ b, simIn N s b → b = s ∨ ab_up h s (.inl (4, [.inr (.inl none), .inr (.inl none), .inr (.inl none), .inl 0, .inl 0])) b = none) → V 7 [some (.inr (.inl (some r))), some (.inr (.inl (some b))), none, none, none, none, none, none, none] [.inr (.inl (some s))] h1 23 148 := by
      intro h1 N u1 u2 u3
      have g1 := sim_el u1
      have fo : ab_fo h h1 (fun _ => False) := by
        intro b _ hn
        have hbs : ¬ b = s := by rintro rfl; exact hn hs0
        have e : ab_up h s (.inl (4, [.inr (.inl none), .inr (.inl none), .inr (.inl none), .inl 0, .inl 0])) b = h b := by rw [ab_up_ap, if_neg hbs]
        rw [u2 b hbs (by rw [e]; exact hn), e]
      have fr : ∀ b, simIn N s b → h b = none := by
        intro b hb
        rcases u3 b hb with q | q
        · rw [q]; exact hs0
        · rw [ab_up_ap] at q
          split at q
          · cases q
          · exact q
      have p : LwP h1 r s A sv0 N sim0 := ⟨sr_fo hA fo, g1, good_0, tab_0⟩
      have i0 := build_d hV hsc hnb hbr (s := s) (fun w4 h2 k z hk hz hq => by
        obtain ⟨v, N2, M2, p2, hd, fo2, fr2⟩ := id hq
        have hsc1 := sc_keep fo2 hsc hbr
        have at197 : ∀ v9 : Int, V 194 [some (.inr (.inl (some r))), some (.inr (.inl (some b))), some (.inr (.inl (some s))), some (.inl (7)), w4, none, none, none, none] [.inl (1 + belowF v9 8)] h2 k z := by
          intro v9
          have r8 := below_r (v := v9) (n := 8) (by omega)
          have i1 := build_y hV hsc hnb hbr (s := s) (fun h' q => hK h' s q) (rows := 1 + belowF v9 8) (by omega) (1 + belowF v9 8).toNat 0 none none none none h2 k z (by omega) (by omega) (by omega) (by omega) hq
          clear hK p2 fo2 fr2 hq
          refine hV (fun p => p == 198) 80 _ _ _ _ _ _ ?_
          simp only [bI_in, bI_0, bI_1, bI_t, bI_f, bI_01, ae_iconst, ae_istore, ae_istore_n, dL_build_194, dL_build_195, dL_build_196, ca_L_build_33, ca_L_build_34, ca_L_build_40, ca_L_build_47, ca_L_build_51, ab_wp0, ab_wps, ab_stp, ab_g, ab_st, ab_k2, ab_cl, ab_pop, ab_sz, ab_2, ab_ret, ab_f4, ab_tg, ab_I, ab_II, ab_A, ab_Rf, ab_VR, ab_IR, ab_VIR, ab_1, ab_LL, ab_DD, ab_ob, ab_pr, ab_qr, ab_ln, ab_so, ab_vI, ab_vA, ab_vD, ab_vL, ab_v2, ab_c, ab_fit, ab_rv, ab_tsw, ab_lsw, ab_up_eq, Fin.isValue, ab_f0, ab_f1, ab_f2, ab_f3, List.getElem?_cons_zero, List.getElem?_cons_succ, List.set_cons_zero, List.set_cons_succ, List.length_cons, List.length_nil, List.size_toArray, List.head?_cons, List.tail_cons, Option.map_some, cond_true, cond_false, true_and, and_true, false_and, and_false, not_true_eq_false, not_false_eq_true, true_imp_iff, false_imp_iff, if_true, if_false, ite_true, ite_false, ↓reduceIte, Nat.reduceAdd, Nat.reduceEqDiff, Nat.reduceLeDiff, Nat.reduceLT, Nat.reduceBEq, Nat.reduceBNe, Int.reduceAdd, Int.reduceNeg, Int.reduceSub, Int.reduceLE, Int.reduceLT, Int.reduceToNat, Int.reduceEq, Int.reduceMul, Int.cast_ofNat_Int, Nat.zero_add, Nat.add_zero, Nat.le_refl, eq_self, ne_eq, reduceCtorEq, or_true, true_or, or_false, false_or, Bool.or_true, Bool.or_false, Bool.true_or, Bool.false_or, Nat.zero_le, Int.le_refl, Int.ofNat_zero, Int.ofNat_one, Bool.false_eq_true]
          try simp only [ab_in]
          (repeat' (first | intro _ | refine And.intro ?_ ?_)) <;> (first | exact i1 | contradiction | omega | (exfalso; omega))
        clear hK p2 fo2 fr2 hq
        refine hV (fun p => bif p == 16 then true else p == 194) 80 _ _ _ _ _ _ ?_
        simp only [hsc1, bI_in, bI_0, bI_1, bI_t, bI_f, bI_01, Tr_L_cell, Tr_L_below, ae_bipush, ae_if_icmp, ae_iload_n, dL_build_10, dL_build_11, dL_build_13, ca_L_build_33, ca_L_build_34, ca_L_build_40, ca_L_build_47, ca_L_build_51, ab_wp0, ab_wps, ab_stp, ab_g, ab_st, ab_k2, ab_cl, ab_pop, ab_sz, ab_2, ab_ret, ab_f4, ab_tg, ab_I, ab_II, ab_A, ab_Rf, ab_VR, ab_IR, ab_VIR, ab_1, ab_LL, ab_DD, ab_ob, ab_pr, ab_qr, ab_ln, ab_so, ab_vI, ab_vA, ab_vD, ab_vL, ab_v2, ab_c, ab_fit, ab_rv, ab_tsw, ab_lsw, ab_up_eq, Fin.isValue, ab_f0, ab_f1, ab_f2, ab_f3, List.getElem?_cons_zero, List.getElem?_cons_succ, List.set_cons_zero, List.set_cons_succ, List.length_cons, List.length_nil, List.size_toArray, List.head?_cons, List.tail_cons, Option.map_some, cond_true, cond_false, true_and, and_true, false_and, and_false, not_true_eq_false, not_false_eq_true, true_imp_iff, false_imp_iff, if_true, if_false, ite_true, ite_false, ↓reduceIte, Nat.reduceAdd, Nat.reduceEqDiff, Nat.reduceLeDiff, Nat.reduceLT, Nat.reduceBEq, Nat.reduceBNe, Int.reduceAdd, Int.reduceNeg, Int.reduceSub, Int.reduceLE, Int.reduceLT, Int.reduceToNat, Int.reduceEq, Int.reduceMul, Int.cast_ofNat_Int, Nat.zero_add, Nat.add_zero, Nat.le_refl, eq_self, ne_eq, reduceCtorEq, or_true, true_or, or_false, false_or, Bool.or_true, Bool.or_false, Bool.true_or, Bool.false_or, Nat.zero_le, Int.le_refl, Int.ofNat_zero, Int.ofNat_one, Bool.false_eq_true, ae_aload_n, ae_bipush, ae_iadd, ae_iconst, ae_invokestatic, dL_build_182, dL_build_183, dL_build_184, dL_build_185, dL_build_188, dL_build_190, dL_build_193, ca_L_build_33, ca_L_build_34, ca_L_build_40, ca_L_build_47, ca_L_build_51, ab_wp0, ab_wps, ab_stp, ab_g, ab_st, ab_k2, ab_cl, ab_pop, ab_sz, ab_2, ab_ret, ab_f4, ab_tg, ab_I, ab_II, ab_A, ab_Rf, ab_VR, ab_IR, ab_VIR, ab_1, ab_LL, ab_DD, ab_ob, ab_pr, ab_qr, ab_ln, ab_so, ab_vI, ab_vA, ab_vD, ab_vL, ab_v2, ab_c, ab_fit, ab_rv, ab_tsw, ab_lsw, ab_up_eq, Fin.isValue, ab_f0, ab_f1, ab_f2, ab_f3, List.getElem?_cons_zero, List.getElem?_cons_succ, List.set_cons_zero, List.set_cons_succ, List.length_cons, List.length_nil, List.size_toArray, List.head?_cons, List.tail_cons, Option.map_some, cond_true, cond_false, true_and, and_true, false_and, and_false, not_true_eq_false, not_false_eq_true, true_imp_iff, false_imp_iff, if_true, if_false, ite_true, ite_false, ↓reduceIte, Nat.reduceAdd, Nat.reduceEqDiff, Nat.reduceLeDiff, Nat.reduceLT, Nat.reduceBEq, Nat.reduceBNe, Int.reduceAdd, Int.reduceNeg, Int.reduceSub, Int.reduceLE, Int.reduceLT, Int.reduceToNat, Int.reduceEq, Int.reduceMul, Int.cast_ofNat_Int, Nat.zero_add, Nat.add_zero, Nat.le_refl, eq_self, ne_eq, reduceCtorEq, or_true, true_or, or_false, false_or, Bool.or_true, Bool.or_false, Bool.true_or, Bool.false_or, Nat.zero_le, Int.le_refl, Int.ofNat_zero, Int.ofNat_one, Bool.false_eq_true]
        try simp only [ab_in]
        (repeat' (first | intro _ | refine And.intro ?_ ?_)) <;> (first | exact at197 _ | exact rfl | contradiction | omega | (exfalso; omega))) 7 0 none h1 23 148 sv0 N sim0 (by omega) (by omega) (by omega) (by omega) p rfl (fo.sub (fun _ q => q.elim)) fr (fun j _ _ => ⟨rfl, rfl, rfl⟩)
      clear hK p fo fr g1
      refine hV (fun p => p == 10) 80 _ _ _ _ _ _ ?_
      simp only [bI_in, bI_0, bI_1, bI_t, bI_f, bI_01, ae_astore_n, ae_iconst, ae_istore_n, dL_build_7, dL_build_8, dL_build_9, ca_L_build_33, ca_L_build_34, ca_L_build_40, ca_L_build_47, ca_L_build_51, ab_wp0, ab_wps, ab_stp, ab_g, ab_st, ab_k2, ab_cl, ab_pop, ab_sz, ab_2, ab_ret, ab_f4, ab_tg, ab_I, ab_II, ab_A, ab_Rf, ab_VR, ab_IR, ab_VIR, ab_1, ab_LL, ab_DD, ab_ob, ab_pr, ab_qr, ab_ln, ab_so, ab_vI, ab_vA, ab_vD, ab_vL, ab_v2, ab_c, ab_fit, ab_rv, ab_tsw, ab_lsw, ab_up_eq, Fin.isValue, ab_f0, ab_f1, ab_f2, ab_f3, List.getElem?_cons_zero, List.getElem?_cons_succ, List.set_cons_zero, List.set_cons_succ, List.length_cons, List.length_nil, List.size_toArray, List.head?_cons, List.tail_cons, Option.map_some, cond_true, cond_false, true_and, and_true, false_and, and_false, not_true_eq_false, not_false_eq_true, true_imp_iff, false_imp_iff, if_true, if_false, ite_true, ite_false, ↓reduceIte, Nat.reduceAdd, Nat.reduceEqDiff, Nat.reduceLeDiff, Nat.reduceLT, Nat.reduceBEq, Nat.reduceBNe, Int.reduceAdd, Int.reduceNeg, Int.reduceSub, Int.reduceLE, Int.reduceLT, Int.reduceToNat, Int.reduceEq, Int.reduceMul, Int.cast_ofNat_Int, Nat.zero_add, Nat.add_zero, Nat.le_refl, eq_self, ne_eq, reduceCtorEq, or_true, true_or, or_false, false_or, Bool.or_true, Bool.or_false, Bool.true_or, Bool.false_or, Nat.zero_le, Int.le_refl, Int.ofNat_zero, Int.ofNat_one, Bool.false_eq_true]
      try simp only [ab_in]
      (repeat' (first | intro _ | refine And.intro ?_ ?_)) <;> (first | exact i0 | contradiction | omega | (exfalso; omega))
    have hcs : ab_up h s (.inl (4, [.inr (.inl none), .inr (.inl none), .inr (.inl none), .inl 0, .inl 0])) s = some (.inl (4, [.inr (.inl none), .inr (.inl none), .inr (.inl none), .inl 0, .inl 0])) := ab_up_eq _ _ _
    clear hK
    refine hV (fun p => p == 7) 80 _ _ _ _ _ _ ?_
    simp only [hcs, bI_in, bI_0, bI_1, bI_t, bI_f, bI_01, Tr_X4_init, ae_dup, ae_invokespecial, dL_build_3, dL_build_4, ca_L_build_33, ca_L_build_34, ca_L_build_40, ca_L_build_47, ca_L_build_51, ab_wp0, ab_wps, ab_stp, ab_g, ab_st, ab_k2, ab_cl, ab_pop, ab_sz, ab_2, ab_ret, ab_f4, ab_tg, ab_I, ab_II, ab_A, ab_Rf, ab_VR, ab_IR, ab_VIR, ab_1, ab_LL, ab_DD, ab_ob, ab_pr, ab_qr, ab_ln, ab_so, ab_vI, ab_vA, ab_vD, ab_vL, ab_v2, ab_c, ab_fit, ab_rv, ab_tsw, ab_lsw, ab_up_eq, Fin.isValue, ab_f0, ab_f1, ab_f2, ab_f3, List.getElem?_cons_zero, List.getElem?_cons_succ, List.set_cons_zero, List.set_cons_succ, List.length_cons, List.length_nil, List.size_toArray, List.head?_cons, List.tail_cons, Option.map_some, cond_true, cond_false, true_and, and_true, false_and, and_false, not_true_eq_false, not_false_eq_true, true_imp_iff, false_imp_iff, if_true, if_false, ite_true, ite_false, ↓reduceIte, Nat.reduceAdd, Nat.reduceEqDiff, Nat.reduceLeDiff, Nat.reduceLT, Nat.reduceBEq, Nat.reduceBNe, Int.reduceAdd, Int.reduceNeg, Int.reduceSub, Int.reduceLE, Int.reduceLT, Int.reduceToNat, Int.reduceEq, Int.reduceMul, Int.cast_ofNat_Int, Nat.zero_add, Nat.add_zero, Nat.le_refl, eq_self, ne_eq, reduceCtorEq, or_true, true_or, or_false, false_or, Bool.or_true, Bool.or_false, Bool.true_or, Bool.false_or, Nat.zero_le, Int.le_refl, Int.ofNat_zero, Int.ofNat_one, Bool.false_eq_true]
    try simp only [ab_in]
    (repeat' (first | intro _ | refine And.intro ?_ ?_)) <;> (first | exact at7 _ _ (by assumption) (by assumption) (by assumption) | exact rfl | contradiction | omega | (exfalso; omega))
  · exact hT.elim
set_option maxRecDepth 100000 in
theorem con_L_build (l : Launch) (D : va_G) (ty : Nat → ClassId) (base : Nat) : ab_Con l D vwCl ty lw_ts base lw_wd yL_build cL_build 9 (some (.object "SlateRoofsLaw$Sim")) 5 120 160 13400 Tr_L_build :=
  ab_con_of (own := RL) (rt := 3) (tb := tbL) (ini := false) (ca := ca_L_build) (by decide +kernel) rfl (fun h => by cases h) rfl lw_wd_ok wtbL lw_ar cm_L_build
    (fun p e R s m args below meth c K hcx => by
      obtain ⟨hx, hb, hml, hown, hF, rfl⟩ := hcx
      exact ab_lk_all (ab_all_c (ab_tc_IN (host := "SlateRoofsLaw") hx hb hml hown lw_wd_ok hF ⟨rfl, rfl⟩ (con_X4_init l D ty base) ar_X4_init (lw_wi (by decide +kernel) (by decide +kernel)) (lw_wi (by decide +kernel) (by decide +kernel)) (lw_wi (by decide +kernel) (by decide +kernel)) (lw_wi (by decide +kernel) (by decide +kernel)) rfl (by decide +kernel) ⟨by decide, by decide⟩) (ab_all_c (ab_tc_S hx hb hml hown lw_wd_ok hF ⟨rfl, rfl⟩ (con_L_cell l D ty base) (lw_wi (by decide +kernel) (by decide +kernel)) (lw_wi (by decide +kernel) (by decide +kernel)) (lw_wi (by decide +kernel) (by decide +kernel)) (lw_wi (by decide +kernel) (by decide +kernel)) (by decide +kernel) ⟨by decide, by decide⟩) (ab_all_c (ab_tc_S hx hb hml hown lw_wd_ok hF ⟨rfl, rfl⟩ (con_L_below l D ty base) (lw_wi (by decide +kernel) (by decide +kernel)) (lw_wi (by decide +kernel) (by decide +kernel)) (lw_wi (by decide +kernel) (by decide +kernel)) (lw_wi (by decide +kernel) (by decide +kernel)) (by decide +kernel) ⟨by decide, by decide⟩) (ab_all_c (ab_tc_V hx hb hml hown lw_wd_ok hF ⟨rfl, rfl⟩ (con_X3_setDay l D ty base) rfl (lw_wi (by decide +kernel) (by decide +kernel)) (lw_wi (by decide +kernel) (by decide +kernel)) (lw_wi (by decide +kernel) (by decide +kernel)) (lw_wi (by decide +kernel) (by decide +kernel)) (lw_wi (by decide +kernel) (by decide +kernel)) (by decide +kernel) ⟨by decide, by decide⟩) (ab_all_c (ab_tc_S hx hb hml hown lw_wd_ok hF ⟨rfl, rfl⟩ (con_L_lays l D ty base) (lw_wi (by decide +kernel) (by decide +kernel)) (lw_wi (by decide +kernel) (by decide +kernel)) (lw_wi (by decide +kernel) (by decide +kernel)) (lw_wi (by decide +kernel) (by decide +kernel)) (by decide +kernel) ⟨by decide, by decide⟩) (ab_all_n)))))))
    (by intro as h K ht; unfold Tr_L_build at ht; split at ht <;> first | exact ht.elim | exact Nat.le_of_ble_eq_true rfl) (sem_L_build base)
